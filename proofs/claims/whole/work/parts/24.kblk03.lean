theorem B43_0 {ev : xV} {Q : Option Value → xM → Prop} {sz sl : Nat} {K L : Nat → Nat} {κ : Nat → Nat → Int32} {ρ : Nat → Nat → Nat} {x1 x2 : Int32} {a0 : Nat} (h : (K a0 = 6) ∧ (¬ ρ a0 4 = 0) ∧ (K (ρ a0 4) = 20) ∧ (vp_in x2 (L (ρ a0 4))) ∧ (∃ r κ' ρ', ev 36 [.int (x1 + (κ (ρ a0 4) x2.toNatClampNeg)), .int (κ a0 1)] (Mm sz sl K L κ ρ) (some (.int r)) (Mm sz sl K L κ' ρ') ∧ wpE (xT 43) ev Q (15, [(0, .ref a0), (1, .int x1), (2, .int x2)], [.int r], Mm sz sl K L κ' ρ'))) : wpE (xT 43) ev Q (0, [(0, .ref a0), (1, .int x1), (2, .int x2)], [], Mm sz sl K L κ ρ) := by
  refine p_ild (cc3 c43_0) rfl ?_
  refine p_ald (cc3 c43_1) rfl ?_
  obtain ⟨g1, h⟩ := h
  obtain ⟨g2, h⟩ := h
  refine p_getp (cc3 c43_2) g1 rfl g2 ?_
  refine p_ild (cc3 c43_5) rfl ?_
  obtain ⟨g3, h⟩ := h
  obtain ⟨g4, h⟩ := h
  refine p_aldi (cc3 c43_6) g3 g4 rfl ?_
  refine p_bin (cc3 c43_7) ?_
  refine p_ald (cc3 c43_8) rfl ?_
  refine p_geti (cc3 c43_9) g1 rfl ?_
  obtain ⟨r, κ', ρ', he, h⟩ := h
  exact p_callS (cc3 c43_12) (Nat.le_of_ble_eq_true rfl) rfl rfl (Nat.le_of_ble_eq_true rfl) he h
theorem B43_15 {ev : xV} {Q : Option Value → xM → Prop} {sz sl : Nat} {K L : Nat → Nat} {κ : Nat → Nat → Int32} {ρ : Nat → Nat → Nat} {x1 x2 s0 : Int32} {a0 : Nat} (h : wpE (xT 43) ev Q (19, [(0, .ref a0), (2, .int x2), (3, .int s0), (4, .int x1)], [], Mm sz sl K L κ ρ)) : wpE (xT 43) ev Q (15, [(0, .ref a0), (1, .int x1), (2, .int x2)], [.int s0], Mm sz sl K L κ ρ) := by
  refine p_ist (ls' := [(3, .int s0), (0, .ref a0), (1, .int x1), (2, .int x2)]) (cc3 c43_15) (by decide) rfl ?_
  refine p_ild (cc3 c43_16) rfl ?_
  refine p_ist (ls' := [(4, .int x1), (3, .int s0), (0, .ref a0), (1, .int x1), (2, .int x2)]) (cc3 c43_17) (by decide) rfl ?_
  exact p_lc (ls' := [(0, .ref a0), (2, .int x2), (3, .int s0), (4, .int x1)]) c43_19 rfl rfl h
theorem B43_19 {ev : xV} {Q : Option Value → xM → Prop} {sz sl : Nat} {K L : Nat → Nat} {κ : Nat → Nat → Int32} {ρ : Nat → Nat → Nat} {x2 x3 x4 : Int32} {a0 : Nat} (h : ((x3 ≤ x4) → Q (some (.int x3)) (Mm sz sl K L κ ρ)) ∧ (¬ (x3 ≤ x4) → (K a0 = 6) ∧ (¬ ρ a0 6 = 0) ∧ (¬ ρ a0 3 = 0) ∧ (K (ρ a0 3) = 20) ∧ (vp_in x2 (L (ρ a0 3))) ∧ (K (ρ a0 6) = 21) ∧ (vp_in x4 (L (ρ a0 6))) ∧ wpE (xT 43) ev Q (19, [(0, .ref a0), (2, .int x2), (3, .int x3), (4, .int (x4 + 1))], [], Mm sz sl K L (U κ (ρ a0 6) x4.toNatClampNeg (vp_nar .byte ((κ (ρ a0 3) x2.toNatClampNeg).toInt8.toInt32))) ρ))) : wpE (xT 43) ev Q (19, [(0, .ref a0), (2, .int x2), (3, .int x3), (4, .int x4)], [], Mm sz sl K L κ ρ) := by
  refine p_ild (cct c43_19 rfl) rfl ?_
  refine p_ild (cc3 c43_21) rfl ?_
  refine p_icmp (cc3 c43_22) (fun c => ?_) (fun c => ?_)
  · have h := h.1 c
    refine p_ild (cc3 c43_45) rfl ?_
    exact p_ri (cc3 c43_46) trivial h
  · have h := h.2 c
    refine p_ald (cc3 c43_25) rfl ?_
    obtain ⟨g1, h⟩ := h
    obtain ⟨g2, h⟩ := h
    refine p_getp (cc3 c43_26) g1 rfl g2 ?_
    refine p_ild (cc3 c43_29) rfl ?_
    refine p_ald (cc3 c43_31) rfl ?_
    obtain ⟨g3, h⟩ := h
    refine p_getp (cc3 c43_32) g1 rfl g3 ?_
    refine p_ild (cc3 c43_35) rfl ?_
    obtain ⟨g4, h⟩ := h
    obtain ⟨g5, h⟩ := h
    refine p_aldi (cc3 c43_36) g4 g5 rfl ?_
    refine p_un (cc3 c43_37) ?_
    obtain ⟨g6, h⟩ := h
    obtain ⟨g7, h⟩ := h
    refine p_asti (cc3 c43_38) g6 g7 mm_xpi ?_
    refine p_iinc (y := x4 + 1) (ls' := [(4, .int (x4 + 1)), (0, .ref a0), (2, .int x2), (3, .int x3)]) (cc3 c43_39) (by decide) rfl rfl rfl ?_
    refine p_goto (cc3 c43_42) ?_
    exact p_lc (ls' := [(0, .ref a0), (2, .int x2), (3, .int x3), (4, .int (x4 + 1))]) c43_19 rfl rfl h
theorem B44_0 {ev : xV} {Q : Option Value → xM → Prop} {sz sl : Nat} {K L : Nat → Nat} {κ : Nat → Nat → Int32} {ρ : Nat → Nat → Nat} {x2 x3 : Int32} {a0 a1 : Nat} (h : ((va_up K sz 20) a0 = 1) ∧ (¬ sz = 0) ∧ (¬ a1 = 0) ∧ Q none (Mm (sz + 1) (sl + 10) (va_up K sz 20) (va_up L sz 10) (U (U (Z0 κ sz) a0 1 x2) a0 2 x3) (UR (UR (ZR ρ sz) a0 3 sz) a0 0 a1))) : wpE (xT 44) ev Q (0, [(0, .ref a0), (1, .ref a1), (2, .int x2), (3, .int x3)], [], Mm sz sl K L κ ρ) := by
  refine p_ald (cc3 c44_0) rfl ?_
  refine p_obj (cc3 c44_1) (Nat.le_of_ble_eq_true rfl) ?_
  refine p_ald (cc3 c44_4) rfl ?_
  refine p_push (cc3 c44_5) ?_
  refine p_newa (N := 10) (cc3 c44_7) (by decide) (by decide) (by decide) mm_new ?_
  obtain ⟨g1, h⟩ := h
  obtain ⟨g2, h⟩ := h
  refine p_putp (cc3 c44_9) g1 g2 mm_xpp ?_
  refine p_ald (cc3 c44_12) rfl ?_
  refine p_ald (cc3 c44_13) rfl ?_
  obtain ⟨g3, h⟩ := h
  refine p_putp (cc3 c44_14) g1 g3 mm_xpp ?_
  refine p_ald (cc3 c44_17) rfl ?_
  refine p_ild (cc3 c44_18) rfl ?_
  refine p_puti (cc3 c44_19) g1 mm_xpi ?_
  refine p_ald (cc3 c44_22) rfl ?_
  refine p_ild (cc3 c44_23) rfl ?_
  refine p_puti (cc3 c44_24) g1 mm_xpi ?_
  exact p_rv (cc3 c44_27) h
theorem B45_0 {ev : xV} {Q : Option Value → xM → Prop} {sz sl : Nat} {K L : Nat → Nat} {κ : Nat → Nat → Int32} {ρ : Nat → Nat → Nat} {x1 x2 : Int32} {a0 : Nat} (h : ((K a0 = 12) ∧ ∃ v : Value, ∃ κ' ρ', ev 46 [.ref a0, .int x1] (Mm sz sl K L κ ρ) (some (v)) (Mm sz sl K L κ' ρ') ∧ wpE (xT 45) ev Q (5, [(0, .ref a0), (1, .int x1), (2, .int x2)], [v], Mm sz sl K L κ' ρ'))) : wpE (xT 45) ev Q (0, [(0, .ref a0), (1, .int x1), (2, .int x2)], [], Mm sz sl K L κ ρ) := by
  refine p_ald (cc3 c45_0) rfl ?_
  refine p_ild (cc3 c45_1) rfl ?_
  obtain ⟨g1, h⟩ := h
  obtain ⟨v, κ', ρ', he, h⟩ := h
  exact p_callV (cc3 c45_2) (Nat.le_of_ble_eq_true rfl) rfl rfl (Nat.le_of_ble_eq_true rfl) g1 he h
theorem B45_5 {ev : xV} {Q : Option Value → xM → Prop} {sz sl : Nat} {K L : Nat → Nat} {κ : Nat → Nat → Int32} {ρ : Nat → Nat → Nat} {x1 x2 : Int32} {a0 b0 : Nat} (h : ((x2 = 0) → (K b0 = 6) ∧ Q (some (.int (κ b0 1))) (Mm sz sl K L κ ρ)) ∧ (¬ (x2 = 0) → ((x2 = 1) → (K b0 = 6) ∧ Q (some (.int (κ b0 0))) (Mm sz sl K L κ ρ)) ∧ (¬ (x2 = 1) → ((x2 = 2) → (K b0 = 6) ∧ (((κ b0 2) = 0) → Q (some (.int 0)) (Mm sz sl K L κ ρ)) ∧ (¬ ((κ b0 2) = 0) → Q (some (.int 1)) (Mm sz sl K L κ ρ))) ∧ (¬ (x2 = 2) → Q (some (.int ((-2)))) (Mm sz sl K L κ ρ))))) : wpE (xT 45) ev Q (5, [(0, .ref a0), (1, .int x1), (2, .int x2)], [.ref b0], Mm sz sl K L κ ρ) := by
  refine p_ast (ls' := [(3, .ref b0), (0, .ref a0), (1, .int x1), (2, .int x2)]) (cc3 c45_5) (by decide) rfl ?_
  refine p_ald (cc3 c45_6) rfl ?_
  refine p_ifnR (cc3 c45_7) ?_
  refine p_ild (cc3 c45_13) rfl ?_
  refine p_sw (cc3 c45_14) ?_
  refine ⟨fun c => ?_, fun c => ?_⟩
  · have h := h.1 c
    refine p_ald (cc3 c45_40) rfl ?_
    obtain ⟨g1, h⟩ := h
    refine p_geti (cc3 c45_41) g1 rfl ?_
    exact p_ri (cc3 c45_44) trivial h
  · have h := h.2 c
    refine ⟨fun c => ?_, fun c => ?_⟩
    · have h := h.1 c
      refine p_ald (cc3 c45_45) rfl ?_
      obtain ⟨g1, h⟩ := h
      refine p_geti (cc3 c45_46) g1 rfl ?_
      exact p_ri (cc3 c45_49) trivial h
    · have h := h.2 c
      refine ⟨fun c => ?_, fun c => ?_⟩
      · have h := h.1 c
        refine p_ald (cc3 c45_50) rfl ?_
        obtain ⟨g1, h⟩ := h
        refine p_geti (cc3 c45_51) g1 rfl ?_
        refine p_if (cc3 c45_54) (fun c => ?_) (fun c => ?_)
        · have h := h.1 c
          refine p_push (cc3 c45_61) ?_
          refine p_lc (ls' := []) c45_62 rfl rfl ?_
          exact p_ri (cct c45_62 rfl) trivial h
        · have h := h.2 c
          refine p_push (cc3 c45_57) ?_
          refine p_goto (cc3 c45_58) ?_
          refine p_lc (ls' := []) c45_62 rfl rfl ?_
          exact p_ri (cct c45_62 rfl) trivial h
      · have h := h.2 c
        refine p_push (cc3 c45_63) ?_
        exact p_ri (cc3 c45_65) trivial h
theorem B45_5n {ev : xV} {Q : Option Value → xM → Prop} {sz sl : Nat} {K L : Nat → Nat} {κ : Nat → Nat → Int32} {ρ : Nat → Nat → Nat} {x1 x2 : Int32} {a0 : Nat} (h : Q (some (.int ((-2)))) (Mm sz sl K L κ ρ)) : wpE (xT 45) ev Q (5, [(0, .ref a0), (1, .int x1), (2, .int x2)], [.null], Mm sz sl K L κ ρ) := by
  refine p_astN (ls' := [(3, .null), (0, .ref a0), (1, .int x1), (2, .int x2)]) (cc3 c45_5) (by decide) rfl ?_
  refine p_aldN (cc3 c45_6) rfl ?_
  refine p_ifnN (cc3 c45_7) ?_
  refine p_push (cc3 c45_10) ?_
  exact p_ri (cc3 c45_12) trivial h
theorem B46_0 {ev : xV} {Q : Option Value → xM → Prop} {sz sl : Nat} {K L : Nat → Nat} {κ : Nat → Nat → Int32} {ρ : Nat → Nat → Nat} {x1 : Int32} {a0 : Nat} (h : ((x1 < 0) → Q (some (.null)) (Mm sz sl K L κ ρ)) ∧ (¬ (x1 < 0) → (K a0 = 12) ∧ ((x1 < (κ a0 10)) → (¬ ρ a0 5 = 0) ∧ (K (ρ a0 5) = 23) ∧ (vp_in x1 (L (ρ a0 5))) ∧ (¬ ρ (ρ a0 5) x1.toNatClampNeg = 0) ∧ Q (some (.ref (ρ (ρ a0 5) x1.toNatClampNeg))) (Mm sz sl K L κ ρ)) ∧ (¬ (x1 < (κ a0 10)) → Q (some (.null)) (Mm sz sl K L κ ρ)))) : wpE (xT 46) ev Q (0, [(0, .ref a0), (1, .int x1)], [], Mm sz sl K L κ ρ) := by
  refine p_ild (cc3 c46_0) rfl ?_
  refine p_if (cc3 c46_1) (fun c => ?_) (fun c => ?_)
  · have h := h.1 c
    refine p_lc (ls' := []) c46_12 rfl rfl ?_
    refine p_push (cct c46_12 rfl) ?_
    refine p_goto (cc3 c46_13) ?_
    exact p_raN (cct c46_22 rfl) h
  · have h := h.2 c
    refine p_ild (cc3 c46_4) rfl ?_
    refine p_ald (cc3 c46_5) rfl ?_
    obtain ⟨g1, h⟩ := h
    refine p_geti (cc3 c46_6) g1 rfl ?_
    refine p_icmp (cc3 c46_9) (fun c => ?_) (fun c => ?_)
    · have h := h.1 c
      refine p_ald (cc3 c46_16) rfl ?_
      obtain ⟨g2, h⟩ := h
      refine p_getp (cc3 c46_17) g1 rfl g2 ?_
      refine p_ild (cc3 c46_20) rfl ?_
      obtain ⟨g3, h⟩ := h
      obtain ⟨g4, h⟩ := h
      obtain ⟨g5, h⟩ := h
      refine p_aldp (cc3 c46_21) g3 g4 rfl g5 ?_
      refine p_lc (ls' := []) c46_22 rfl rfl ?_
      exact p_ra (cct c46_22 rfl) h
    · have h := h.2 c
      refine p_lc (ls' := []) c46_12 rfl rfl ?_
      refine p_push (cct c46_12 rfl) ?_
      refine p_goto (cc3 c46_13) ?_
      exact p_raN (cct c46_22 rfl) h
theorem B47_0 {ev : xV} {Q : Option Value → xM → Prop} {sz sl : Nat} {K L : Nat → Nat} {κ : Nat → Nat → Int32} {ρ : Nat → Nat → Nat} {x1 x2 x3 : Int32} {a0 : Nat} (h : ((K a0 = 12) ∧ ∃ v : Value, ∃ κ' ρ', ev 46 [.ref a0, .int x1] (Mm sz sl K L κ ρ) (some (v)) (Mm sz sl K L κ' ρ') ∧ wpE (xT 47) ev Q (5, [(0, .ref a0), (1, .int x1), (2, .int x2), (3, .int x3)], [v], Mm sz sl K L κ' ρ'))) : wpE (xT 47) ev Q (0, [(0, .ref a0), (1, .int x1), (2, .int x2), (3, .int x3)], [], Mm sz sl K L κ ρ) := by
  refine p_ald (cc3 c47_0) rfl ?_
  refine p_ild (cc3 c47_1) rfl ?_
  obtain ⟨g1, h⟩ := h
  obtain ⟨v, κ', ρ', he, h⟩ := h
  exact p_callV (cc3 c47_2) (Nat.le_of_ble_eq_true rfl) rfl rfl (Nat.le_of_ble_eq_true rfl) g1 he h
theorem B47_5 {ev : xV} {Q : Option Value → xM → Prop} {sz sl : Nat} {K L : Nat → Nat} {κ : Nat → Nat → Int32} {ρ : Nat → Nat → Nat} {x1 x2 x3 : Int32} {a0 b0 : Nat} (h : ((K b0 = 6) ∧ ∃ r κ' ρ', ev 48 [.ref b0, .int x2] (Mm sz sl K L κ ρ) (some (.int r)) (Mm sz sl K L κ' ρ') ∧ wpE (xT 47) ev Q (18, [(4, .ref b0), (0, .ref a0), (1, .int x1), (2, .int x2), (3, .int x3)], [.int r], Mm sz sl K L κ' ρ'))) : wpE (xT 47) ev Q (5, [(0, .ref a0), (1, .int x1), (2, .int x2), (3, .int x3)], [.ref b0], Mm sz sl K L κ ρ) := by
  refine p_ast (ls' := [(4, .ref b0), (0, .ref a0), (1, .int x1), (2, .int x2), (3, .int x3)]) (cc3 c47_5) (by decide) rfl ?_
  refine p_ald (cc3 c47_7) rfl ?_
  refine p_ifnR (cc3 c47_9) ?_
  refine p_ald (cc3 c47_12) rfl ?_
  refine p_ild (cc3 c47_14) rfl ?_
  obtain ⟨g1, h⟩ := h
  obtain ⟨r, κ', ρ', he, h⟩ := h
  exact p_callV (cc3 c47_15) (Nat.le_of_ble_eq_true rfl) rfl rfl (Nat.le_of_ble_eq_true rfl) g1 he h
theorem B47_5n {ev : xV} {Q : Option Value → xM → Prop} {sz sl : Nat} {K L : Nat → Nat} {κ : Nat → Nat → Int32} {ρ : Nat → Nat → Nat} {x1 x2 x3 : Int32} {a0 : Nat} (h : Q (some (.int ((-2)))) (Mm sz sl K L κ ρ)) : wpE (xT 47) ev Q (5, [(0, .ref a0), (1, .int x1), (2, .int x2), (3, .int x3)], [.null], Mm sz sl K L κ ρ) := by
  refine p_astN (ls' := [(4, .null), (0, .ref a0), (1, .int x1), (2, .int x2), (3, .int x3)]) (cc3 c47_5) (by decide) rfl ?_
  refine p_aldN (cc3 c47_7) rfl ?_
  refine p_ifnN (cc3 c47_9) ?_
  refine p_lc (ls' := []) c47_21 rfl rfl ?_
  refine p_push (cct c47_21 rfl) ?_
  exact p_ri (cc3 c47_23) trivial h
theorem B47_18 {ev : xV} {Q : Option Value → xM → Prop} {sz sl : Nat} {K L : Nat → Nat} {κ : Nat → Nat → Int32} {ρ : Nat → Nat → Nat} {x1 x2 x3 s0 : Int32} {a4 a0 : Nat} (h : ((s0 = 0) → Q (some (.int ((-2)))) (Mm sz sl K L κ ρ)) ∧ (¬ (s0 = 0) → ((x3 = 0) → (K a4 = 6) ∧ (¬ ρ a4 3 = 0) ∧ (K (ρ a4 3) = 20) ∧ (vp_in x2 (L (ρ a4 3))) ∧ Q (some (.int (κ (ρ a4 3) x2.toNatClampNeg))) (Mm sz sl K L κ ρ)) ∧ (¬ (x3 = 0) → ((x3 = 1) → (K a4 = 6) ∧ (¬ ρ a4 4 = 0) ∧ (K (ρ a4 4) = 20) ∧ (vp_in x2 (L (ρ a4 4))) ∧ Q (some (.int (κ (ρ a4 4) x2.toNatClampNeg))) (Mm sz sl K L κ ρ)) ∧ (¬ (x3 = 1) → ((x3 = 2) → (K a4 = 6) ∧ (¬ ρ a4 5 = 0) ∧ (K (ρ a4 5) = 20) ∧ (vp_in x2 (L (ρ a4 5))) ∧ Q (some (.int (κ (ρ a4 5) x2.toNatClampNeg))) (Mm sz sl K L κ ρ)) ∧ (¬ (x3 = 2) → Q (some (.int ((-2)))) (Mm sz sl K L κ ρ)))))) : wpE (xT 47) ev Q (18, [(4, .ref a4), (0, .ref a0), (1, .int x1), (2, .int x2), (3, .int x3)], [.int s0], Mm sz sl K L κ ρ) := by
  refine p_if (cc3 c47_18) (fun c => ?_) (fun c => ?_)
  · have h := h.1 c
    refine p_lc (ls' := []) c47_21 rfl rfl ?_
    refine p_push (cct c47_21 rfl) ?_
    exact p_ri (cc3 c47_23) trivial h
  · have h := h.2 c
    refine p_ild (cc3 c47_24) rfl ?_
    refine p_sw (cc3 c47_25) ?_
    refine ⟨fun c => ?_, fun c => ?_⟩
    · have h := h.1 c
      refine p_ald (cc3 c47_52) rfl ?_
      obtain ⟨g1, h⟩ := h
      obtain ⟨g2, h⟩ := h
      refine p_getp (cc3 c47_54) g1 rfl g2 ?_
      refine p_ild (cc3 c47_57) rfl ?_
      obtain ⟨g3, h⟩ := h
      obtain ⟨g4, h⟩ := h
      refine p_aldi (cc3 c47_58) g3 g4 rfl ?_
      exact p_ri (cc3 c47_59) trivial h
    · have h := h.2 c
      refine ⟨fun c => ?_, fun c => ?_⟩
      · have h := h.1 c
        refine p_ald (cc3 c47_60) rfl ?_
        obtain ⟨g1, h⟩ := h
        obtain ⟨g2, h⟩ := h
        refine p_getp (cc3 c47_62) g1 rfl g2 ?_
        refine p_ild (cc3 c47_65) rfl ?_
        obtain ⟨g3, h⟩ := h
        obtain ⟨g4, h⟩ := h
        refine p_aldi (cc3 c47_66) g3 g4 rfl ?_
        exact p_ri (cc3 c47_67) trivial h
      · have h := h.2 c
        refine ⟨fun c => ?_, fun c => ?_⟩
        · have h := h.1 c
          refine p_ald (cc3 c47_68) rfl ?_
          obtain ⟨g1, h⟩ := h
          obtain ⟨g2, h⟩ := h
          refine p_getp (cc3 c47_70) g1 rfl g2 ?_
          refine p_ild (cc3 c47_73) rfl ?_
          obtain ⟨g3, h⟩ := h
          obtain ⟨g4, h⟩ := h
          refine p_aldi (cc3 c47_74) g3 g4 rfl ?_
          exact p_ri (cc3 c47_75) trivial h
        · have h := h.2 c
          refine p_push (cc3 c47_76) ?_
          exact p_ri (cc3 c47_78) trivial h
theorem B48_0 {ev : xV} {Q : Option Value → xM → Prop} {sz sl : Nat} {K L : Nat → Nat} {κ : Nat → Nat → Int32} {ρ : Nat → Nat → Nat} {x1 : Int32} {a0 : Nat} (h : ((x1 < 0) → Q (some (.int 0)) (Mm sz sl K L κ ρ)) ∧ (¬ (x1 < 0) → (K a0 = 6) ∧ (((κ a0 0) ≤ x1) → Q (some (.int 0)) (Mm sz sl K L κ ρ)) ∧ (¬ ((κ a0 0) ≤ x1) → Q (some (.int 1)) (Mm sz sl K L κ ρ)))) : wpE (xT 48) ev Q (0, [(0, .ref a0), (1, .int x1)], [], Mm sz sl K L κ ρ) := by
  refine p_ild (cc3 c48_0) rfl ?_
  refine p_if (cc3 c48_1) (fun c => ?_) (fun c => ?_)
  · have h := h.1 c
    refine p_lc (ls' := []) c48_16 rfl rfl ?_
    refine p_push (cct c48_16 rfl) ?_
    exact p_ri (cct c48_17 rfl) (by decide) h
  · have h := h.2 c
    refine p_ild (cc3 c48_4) rfl ?_
    refine p_ald (cc3 c48_5) rfl ?_
    obtain ⟨g1, h⟩ := h
    refine p_geti (cc3 c48_6) g1 rfl ?_
    refine p_icmp (cc3 c48_9) (fun c => ?_) (fun c => ?_)
    · have h := h.1 c
      refine p_lc (ls' := []) c48_16 rfl rfl ?_
      refine p_push (cct c48_16 rfl) ?_
      exact p_ri (cct c48_17 rfl) (by decide) h
    · have h := h.2 c
      refine p_push (cc3 c48_12) ?_
      refine p_goto (cc3 c48_13) ?_
      refine p_lc (ls' := []) c48_17 rfl rfl ?_
      exact p_ri (cct c48_17 rfl) (by decide) h
theorem B49_0 {ev : xV} {Q : Option Value → xM → Prop} {sz sl : Nat} {K L : Nat → Nat} {κ : Nat → Nat → Int32} {ρ : Nat → Nat → Nat} {x1 x2 : Int32} {a0 : Nat} (h : ((K a0 = 12) ∧ ∃ v : Value, ∃ κ' ρ', ev 46 [.ref a0, .int x1] (Mm sz sl K L κ ρ) (some (v)) (Mm sz sl K L κ' ρ') ∧ wpE (xT 49) ev Q (5, [(0, .ref a0), (1, .int x1), (2, .int x2)], [v], Mm sz sl K L κ' ρ'))) : wpE (xT 49) ev Q (0, [(0, .ref a0), (1, .int x1), (2, .int x2)], [], Mm sz sl K L κ ρ) := by
  refine p_ald (cc3 c49_0) rfl ?_
  refine p_ild (cc3 c49_1) rfl ?_
  obtain ⟨g1, h⟩ := h
  obtain ⟨v, κ', ρ', he, h⟩ := h
  exact p_callV (cc3 c49_2) (Nat.le_of_ble_eq_true rfl) rfl rfl (Nat.le_of_ble_eq_true rfl) g1 he h
theorem B49_5 {ev : xV} {Q : Option Value → xM → Prop} {sz sl : Nat} {K L : Nat → Nat} {κ : Nat → Nat → Int32} {ρ : Nat → Nat → Nat} {x1 x2 : Int32} {a0 b0 : Nat} (h : ((0 ≤ x2) → ((K b0 = 6) ∧ ∃ r κ' ρ', ev 50 [.ref b0, .int x2] (Mm sz sl K L κ ρ) (some (.int r)) (Mm sz sl K L κ' ρ') ∧ wpE (xT 49) ev Q (24, [], [.int r], Mm sz sl K L κ' ρ'))) ∧ (¬ (0 ≤ x2) → Q (some (.int ((-2)))) (Mm sz sl K L κ ρ))) : wpE (xT 49) ev Q (5, [(0, .ref a0), (1, .int x1), (2, .int x2)], [.ref b0], Mm sz sl K L κ ρ) := by
  refine p_ast (ls' := [(3, .ref b0), (0, .ref a0), (1, .int x1), (2, .int x2)]) (cc3 c49_5) (by decide) rfl ?_
  refine p_ald (cc3 c49_6) rfl ?_
  refine p_ifnR (cc3 c49_7) ?_
  refine p_ild (cc3 c49_10) rfl ?_
  refine p_if (cc3 c49_11) (fun c => ?_) (fun c => ?_)
  · have h := h.1 c
    refine p_ald (cc3 c49_19) rfl ?_
    refine p_ild (cc3 c49_20) rfl ?_
    obtain ⟨g1, h⟩ := h
    obtain ⟨r, κ', ρ', he, h⟩ := h
    exact p_callV (cc3 c49_21) (Nat.le_of_ble_eq_true rfl) rfl rfl (Nat.le_of_ble_eq_true rfl) g1 he (p_lc (ls' := []) c49_24 rfl rfl h)
  · have h := h.2 c
    refine p_lc (ls' := []) c49_14 rfl rfl ?_
    refine p_push (cct c49_14 rfl) ?_
    refine p_goto (cc3 c49_16) ?_
    exact p_ri (cct c49_24 rfl) trivial h
theorem B49_5n {ev : xV} {Q : Option Value → xM → Prop} {sz sl : Nat} {K L : Nat → Nat} {κ : Nat → Nat → Int32} {ρ : Nat → Nat → Nat} {x1 x2 : Int32} {a0 : Nat} (h : Q (some (.int ((-2)))) (Mm sz sl K L κ ρ)) : wpE (xT 49) ev Q (5, [(0, .ref a0), (1, .int x1), (2, .int x2)], [.null], Mm sz sl K L κ ρ) := by
  refine p_astN (ls' := [(3, .null), (0, .ref a0), (1, .int x1), (2, .int x2)]) (cc3 c49_5) (by decide) rfl ?_
  refine p_aldN (cc3 c49_6) rfl ?_
  refine p_ifnN (cc3 c49_7) ?_
  refine p_lc (ls' := []) c49_14 rfl rfl ?_
  refine p_push (cct c49_14 rfl) ?_
  refine p_goto (cc3 c49_16) ?_
  exact p_ri (cct c49_24 rfl) trivial h
theorem B49_24 {ev : xV} {Q : Option Value → xM → Prop} {sz sl : Nat} {K L : Nat → Nat} {κ : Nat → Nat → Int32} {ρ : Nat → Nat → Nat} {s0 : Int32} (h : Q (some (.int s0)) (Mm sz sl K L κ ρ)) : wpE (xT 49) ev Q (24, [], [.int s0], Mm sz sl K L κ ρ) := by
  exact p_ri (cct c49_24 rfl) trivial h
theorem B50_0 {ev : xV} {Q : Option Value → xM → Prop} {sz sl : Nat} {K L : Nat → Nat} {κ : Nat → Nat → Int32} {ρ : Nat → Nat → Nat} {x1 : Int32} {a0 : Nat} (h : ((x1 < 0) → Q (some (.int ((-1)))) (Mm sz sl K L κ ρ)) ∧ (¬ (x1 < 0) → (K a0 = 6) ∧ ((1 ≤ (κ a0 1)) → (¬ ρ a0 6 = 0) ∧ (¬ (κ a0 1) = 0) ∧ (K (ρ a0 6) = 21) ∧ (vp_in (x1 - x1 / (κ a0 1) * (κ a0 1)) (L (ρ a0 6))) ∧ Q (some (.int (κ (ρ a0 6) (x1 - x1 / (κ a0 1) * (κ a0 1)).toNatClampNeg))) (Mm sz sl K L κ ρ)) ∧ (¬ (1 ≤ (κ a0 1)) → Q (some (.int ((-1)))) (Mm sz sl K L κ ρ)))) : wpE (xT 50) ev Q (0, [(0, .ref a0), (1, .int x1)], [], Mm sz sl K L κ ρ) := by
  refine p_ild (cc3 c50_0) rfl ?_
  refine p_if (cc3 c50_1) (fun c => ?_) (fun c => ?_)
  · have h := h.1 c
    refine p_lc (ls' := []) c50_12 rfl rfl ?_
    refine p_push (cct c50_12 rfl) ?_
    refine p_goto (cc3 c50_13) ?_
    exact p_ri (cct c50_27 rfl) trivial h
  · have h := h.2 c
    refine p_ald (cc3 c50_4) rfl ?_
    obtain ⟨g1, h⟩ := h
    refine p_geti (cc3 c50_5) g1 rfl ?_
    refine p_push (cc3 c50_8) ?_
    refine p_icmp (cc3 c50_9) (fun c => ?_) (fun c => ?_)
    · have h := h.1 c
      refine p_ald (cc3 c50_16) rfl ?_
      obtain ⟨g2, h⟩ := h
      refine p_getp (cc3 c50_17) g1 rfl g2 ?_
      refine p_ild (cc3 c50_20) rfl ?_
      refine p_ald (cc3 c50_21) rfl ?_
      refine p_geti (cc3 c50_22) g1 rfl ?_
      obtain ⟨g, h⟩ := h
      refine p_div (cc3 c50_25) g ?_
      obtain ⟨g3, h⟩ := h
      obtain ⟨g4, h⟩ := h
      refine p_aldi (cc3 c50_26) g3 g4 rfl ?_
      refine p_lc (ls' := []) c50_27 rfl rfl ?_
      exact p_ri (cct c50_27 rfl) trivial h
    · have h := h.2 c
      refine p_lc (ls' := []) c50_12 rfl rfl ?_
      refine p_push (cct c50_12 rfl) ?_
      refine p_goto (cc3 c50_13) ?_
      exact p_ri (cct c50_27 rfl) trivial h
theorem B51_0 {ev : xV} {Q : Option Value → xM → Prop} {sz sl : Nat} {K L : Nat → Nat} {κ : Nat → Nat → Int32} {ρ : Nat → Nat → Nat} {x1 x2 x3 : Int32} {a0 : Nat} (h : ((K a0 = 12) ∧ ∃ v : Value, ∃ κ' ρ', ev 46 [.ref a0, .int x1] (Mm sz sl K L κ ρ) (some (v)) (Mm sz sl K L κ' ρ') ∧ wpE (xT 51) ev Q (5, [(0, .ref a0), (1, .int x1), (2, .int x2), (3, .int x3)], [v], Mm sz sl K L κ' ρ'))) : wpE (xT 51) ev Q (0, [(0, .ref a0), (1, .int x1), (2, .int x2), (3, .int x3)], [], Mm sz sl K L κ ρ) := by
  refine p_ald (cc3 c51_0) rfl ?_
  refine p_ild (cc3 c51_1) rfl ?_
  obtain ⟨g1, h⟩ := h
  obtain ⟨v, κ', ρ', he, h⟩ := h
  exact p_callV (cc3 c51_2) (Nat.le_of_ble_eq_true rfl) rfl rfl (Nat.le_of_ble_eq_true rfl) g1 he h
theorem B51_5 {ev : xV} {Q : Option Value → xM → Prop} {sz sl : Nat} {K L : Nat → Nat} {κ : Nat → Nat → Int32} {ρ : Nat → Nat → Nat} {x1 x2 x3 : Int32} {a0 b0 : Nat} (h : ((x2 < 0) → Q (some (.int ((-2)))) (Mm sz sl K L κ ρ)) ∧ (¬ (x2 < 0) → ((99999 < x2) → Q (some (.int ((-2)))) (Mm sz sl K L κ ρ)) ∧ (¬ (99999 < x2) → ((x3 < 0) → Q (some (.int ((-2)))) (Mm sz sl K L κ ρ)) ∧ (¬ (x3 < 0) → ((x3 ≤ 99999) → ((2 ≤ ((x2 + x3) - (x2 + x3) / 4 * 4)) → ((K b0 = 6) ∧ ∃ r κ' ρ', ev 50 [.ref b0, .int x3] (Mm sz sl K L κ ρ) (some (.int r)) (Mm sz sl K L κ' ρ') ∧ wpE (xT 51) ev Q (54, [], [.int r], Mm sz sl K L κ' ρ'))) ∧ (¬ (2 ≤ ((x2 + x3) - (x2 + x3) / 4 * 4)) → ((K b0 = 6) ∧ ∃ r κ' ρ', ev 50 [.ref b0, .int x2] (Mm sz sl K L κ ρ) (some (.int r)) (Mm sz sl K L κ' ρ') ∧ wpE (xT 51) ev Q (54, [], [.int r], Mm sz sl K L κ' ρ')))) ∧ (¬ (x3 ≤ 99999) → Q (some (.int ((-2)))) (Mm sz sl K L κ ρ)))))) : wpE (xT 51) ev Q (5, [(0, .ref a0), (1, .int x1), (2, .int x2), (3, .int x3)], [.ref b0], Mm sz sl K L κ ρ) := by
  refine p_ast (ls' := [(4, .ref b0), (0, .ref a0), (1, .int x1), (2, .int x2), (3, .int x3)]) (cc3 c51_5) (by decide) rfl ?_
  refine p_ald (cc3 c51_7) rfl ?_
  refine p_ifnR (cc3 c51_9) ?_
  refine p_ild (cc3 c51_12) rfl ?_
  refine p_if (cc3 c51_13) (fun c => ?_) (fun c => ?_)
  · have h := h.1 c
    refine p_lc (ls' := []) c51_32 rfl rfl ?_
    refine p_push (cct c51_32 rfl) ?_
    exact p_ri (cc3 c51_34) trivial h
  · have h := h.2 c
    refine p_ild (cc3 c51_16) rfl ?_
    refine p_push (cc3 c51_17) ?_
    refine p_icmp (cc3 c51_19) (fun c => ?_) (fun c => ?_)
    · have h := h.1 c
      refine p_lc (ls' := []) c51_32 rfl rfl ?_
      refine p_push (cct c51_32 rfl) ?_
      exact p_ri (cc3 c51_34) trivial h
    · have h := h.2 c
      refine p_ild (cc3 c51_22) rfl ?_
      refine p_if (cc3 c51_23) (fun c => ?_) (fun c => ?_)
      · have h := h.1 c
        refine p_lc (ls' := []) c51_32 rfl rfl ?_
        refine p_push (cct c51_32 rfl) ?_
        exact p_ri (cc3 c51_34) trivial h
      · have h := h.2 c
        refine p_ild (cc3 c51_26) rfl ?_
        refine p_push (cc3 c51_27) ?_
        refine p_icmp (cc3 c51_29) (fun c => ?_) (fun c => ?_)
        · have h := h.1 c
          refine p_ald (cc3 c51_35) rfl ?_
          refine p_ild (cc3 c51_37) rfl ?_
          refine p_ild (cc3 c51_38) rfl ?_
          refine p_bin (cc3 c51_39) ?_
          refine p_push (cc3 c51_40) ?_
          refine p_div (cc3 c51_41) (by decide) ?_
          refine p_push (cc3 c51_42) ?_
          refine p_icmp (cc3 c51_43) (fun c => ?_) (fun c => ?_)
          · have h := h.1 c
            refine p_ild (cc3 c51_50) rfl ?_
            refine p_lc (ls' := []) c51_51 rfl rfl ?_
            obtain ⟨g1, h⟩ := h
            obtain ⟨r, κ', ρ', he, h⟩ := h
            exact p_callV (cct c51_51 rfl) (Nat.le_of_ble_eq_true rfl) rfl rfl (Nat.le_of_ble_eq_true rfl) g1 he h
          · have h := h.2 c
            refine p_ild (cc3 c51_46) rfl ?_
            refine p_goto (cc3 c51_47) ?_
            refine p_lc (ls' := []) c51_51 rfl rfl ?_
            obtain ⟨g1, h⟩ := h
            obtain ⟨r, κ', ρ', he, h⟩ := h
            exact p_callV (cct c51_51 rfl) (Nat.le_of_ble_eq_true rfl) rfl rfl (Nat.le_of_ble_eq_true rfl) g1 he h
        · have h := h.2 c
          refine p_lc (ls' := []) c51_32 rfl rfl ?_
          refine p_push (cct c51_32 rfl) ?_
          exact p_ri (cc3 c51_34) trivial h
theorem B51_5n {ev : xV} {Q : Option Value → xM → Prop} {sz sl : Nat} {K L : Nat → Nat} {κ : Nat → Nat → Int32} {ρ : Nat → Nat → Nat} {x1 x2 x3 : Int32} {a0 : Nat} (h : Q (some (.int ((-2)))) (Mm sz sl K L κ ρ)) : wpE (xT 51) ev Q (5, [(0, .ref a0), (1, .int x1), (2, .int x2), (3, .int x3)], [.null], Mm sz sl K L κ ρ) := by
  refine p_astN (ls' := [(4, .null), (0, .ref a0), (1, .int x1), (2, .int x2), (3, .int x3)]) (cc3 c51_5) (by decide) rfl ?_
  refine p_aldN (cc3 c51_7) rfl ?_
  refine p_ifnN (cc3 c51_9) ?_
  refine p_lc (ls' := []) c51_32 rfl rfl ?_
  refine p_push (cct c51_32 rfl) ?_
  exact p_ri (cc3 c51_34) trivial h
theorem B51_54 {ev : xV} {Q : Option Value → xM → Prop} {sz sl : Nat} {K L : Nat → Nat} {κ : Nat → Nat → Int32} {ρ : Nat → Nat → Nat} {s0 : Int32} (h : Q (some (.int s0)) (Mm sz sl K L κ ρ)) : wpE (xT 51) ev Q (54, [], [.int s0], Mm sz sl K L κ ρ) := by
  exact p_ri (cc3 c51_54) trivial h
theorem B52_0 {ev : xV} {Q : Option Value → xM → Prop} {sz sl : Nat} {K L : Nat → Nat} {κ : Nat → Nat → Int32} {ρ : Nat → Nat → Nat} {x1 x2 : Int32} {a0 : Nat} (h : ((K a0 = 12) ∧ ∃ v : Value, ∃ κ' ρ', ev 46 [.ref a0, .int x1] (Mm sz sl K L κ ρ) (some (v)) (Mm sz sl K L κ' ρ') ∧ wpE (xT 52) ev Q (5, [(0, .ref a0), (1, .int x1), (2, .int x2)], [v], Mm sz sl K L κ' ρ'))) : wpE (xT 52) ev Q (0, [(0, .ref a0), (1, .int x1), (2, .int x2)], [], Mm sz sl K L κ ρ) := by
  refine p_ald (cc3 c52_0) rfl ?_
  refine p_ild (cc3 c52_1) rfl ?_
  obtain ⟨g1, h⟩ := h
  obtain ⟨v, κ', ρ', he, h⟩ := h
  exact p_callV (cc3 c52_2) (Nat.le_of_ble_eq_true rfl) rfl rfl (Nat.le_of_ble_eq_true rfl) g1 he h
theorem B52_5 {ev : xV} {Q : Option Value → xM → Prop} {sz sl : Nat} {K L : Nat → Nat} {κ : Nat → Nat → Int32} {ρ : Nat → Nat → Nat} {x1 x2 : Int32} {a0 b0 : Nat} (h : ((x2 < 100) → Q (some (.int ((-2)))) (Mm sz sl K L κ ρ)) ∧ (¬ (x2 < 100) → ((x2 ≤ 9999) → (K a0 = 12) ∧ (((κ a0 11) < 4) → (¬ ρ a0 6 = 0) ∧ (∃ sz' sl' K' L' κ' ρ', ev 44 [.ref sz, .ref b0, .int x1, .int x2] (Mm (sz + 1) (sl + 5) (va_up K sz 1) (va_up L sz 5) (Z0 κ sz) (ZR ρ sz)) none (Mm sz' sl' K' L' κ' ρ') ∧ wpE (xT 52) ev Q (55, [(3, .ref b0), (0, .ref a0), (1, .int x1), (2, .int x2)], [.ref sz, .int (κ a0 11), .ref (ρ a0 6)], Mm sz' sl' K' L' κ' ρ'))) ∧ (¬ ((κ a0 11) < 4) → Q (some (.int ((-4)))) (Mm sz sl K L κ ρ))) ∧ (¬ (x2 ≤ 9999) → Q (some (.int ((-2)))) (Mm sz sl K L κ ρ)))) : wpE (xT 52) ev Q (5, [(0, .ref a0), (1, .int x1), (2, .int x2)], [.ref b0], Mm sz sl K L κ ρ) := by
  refine p_ast (ls' := [(3, .ref b0), (0, .ref a0), (1, .int x1), (2, .int x2)]) (cc3 c52_5) (by decide) rfl ?_
  refine p_ald (cc3 c52_6) rfl ?_
  refine p_ifnR (cc3 c52_7) ?_
  refine p_ild (cc3 c52_10) rfl ?_
  refine p_push (cc3 c52_11) ?_
  refine p_icmp (cc3 c52_13) (fun c => ?_) (fun c => ?_)
  · have h := h.1 c
    refine p_lc (ls' := []) c52_23 rfl rfl ?_
    refine p_push (cct c52_23 rfl) ?_
    exact p_ri (cc3 c52_25) trivial h
  · have h := h.2 c
    refine p_ild (cc3 c52_16) rfl ?_
    refine p_push (cc3 c52_17) ?_
    refine p_icmp (cc3 c52_20) (fun c => ?_) (fun c => ?_)
    · have h := h.1 c
      refine p_ald (cc3 c52_26) rfl ?_
      obtain ⟨g1, h⟩ := h
      refine p_geti (cc3 c52_27) g1 rfl ?_
      refine p_push (cc3 c52_30) ?_
      refine p_icmp (cc3 c52_31) (fun c => ?_) (fun c => ?_)
      · have h := h.1 c
        refine p_ald (cc3 c52_37) rfl ?_
        obtain ⟨g2, h⟩ := h
        refine p_getp (cc3 c52_38) g1 rfl g2 ?_
        refine p_ald (cc3 c52_41) rfl ?_
        refine p_geti (cc3 c52_42) g1 rfl ?_
        refine p_new (cc3 c52_45) mm_new ?_
        refine p_dup (cc3 c52_48) rfl ?_
        refine p_ald (cc3 c52_49) rfl ?_
        refine p_ild (cc3 c52_50) rfl ?_
        refine p_ild (cc3 c52_51) rfl ?_
        obtain ⟨sz', sl', K', L', κ', ρ', he, h⟩ := h
        exact p_callI (cc3 c52_52) (Nat.le_of_ble_eq_true rfl) rfl rfl (Nat.le_of_ble_eq_true rfl) he h
      · have h := h.2 c
        refine p_push (cc3 c52_34) ?_
        exact p_ri (cc3 c52_36) trivial h
    · have h := h.2 c
      refine p_lc (ls' := []) c52_23 rfl rfl ?_
      refine p_push (cct c52_23 rfl) ?_
      exact p_ri (cc3 c52_25) trivial h
theorem B52_5n {ev : xV} {Q : Option Value → xM → Prop} {sz sl : Nat} {K L : Nat → Nat} {κ : Nat → Nat → Int32} {ρ : Nat → Nat → Nat} {x1 x2 : Int32} {a0 : Nat} (h : Q (some (.int ((-2)))) (Mm sz sl K L κ ρ)) : wpE (xT 52) ev Q (5, [(0, .ref a0), (1, .int x1), (2, .int x2)], [.null], Mm sz sl K L κ ρ) := by
  refine p_astN (ls' := [(3, .null), (0, .ref a0), (1, .int x1), (2, .int x2)]) (cc3 c52_5) (by decide) rfl ?_
  refine p_aldN (cc3 c52_6) rfl ?_
  refine p_ifnN (cc3 c52_7) ?_
  refine p_lc (ls' := []) c52_23 rfl rfl ?_
  refine p_push (cct c52_23 rfl) ?_
  exact p_ri (cc3 c52_25) trivial h
theorem B52_55 {ev : xV} {Q : Option Value → xM → Prop} {sz sl : Nat} {K L : Nat → Nat} {κ : Nat → Nat → Int32} {ρ : Nat → Nat → Nat} {x1 x2 s1 : Int32} {a3 a0 b0 b2 : Nat} (h : (K b2 = 24) ∧ (vp_in s1 (L b2)) ∧ (K b0 = 1) ∧ (¬ b0 = 0) ∧ (K a0 = 12) ∧ Q (some (.int (((U κ a0 11 ((κ a0 11) + 1)) a0 11) - 1))) (Mm sz sl K L (U κ a0 11 ((κ a0 11) + 1)) (UR ρ b2 s1.toNatClampNeg b0))) : wpE (xT 52) ev Q (55, [(3, .ref a3), (0, .ref a0), (1, .int x1), (2, .int x2)], [.ref b0, .int s1, .ref b2], Mm sz sl K L κ ρ) := by
  obtain ⟨g1, h⟩ := h
  obtain ⟨g2, h⟩ := h
  obtain ⟨g3, h⟩ := h
  obtain ⟨g4, h⟩ := h
  refine p_astp (cc3 c52_55) g1 g2 g3 g4 mm_xpp ?_
  refine p_ald (cc3 c52_56) rfl ?_
  refine p_dup (cc3 c52_57) rfl ?_
  obtain ⟨g5, h⟩ := h
  refine p_geti (cc3 c52_58) g5 rfl ?_
  refine p_push (cc3 c52_61) ?_
  refine p_bin (cc3 c52_62) ?_
  refine p_puti (cc3 c52_63) g5 mm_xpi ?_
  refine p_ald (cc3 c52_66) rfl ?_
  refine p_geti (cc3 c52_67) g5 rfl ?_
  refine p_push (cc3 c52_70) ?_
  refine p_bin (cc3 c52_71) ?_
  exact p_ri (cc3 c52_72) trivial h
theorem B53_0 {ev : xV} {Q : Option Value → xM → Prop} {sz sl : Nat} {K L : Nat → Nat} {κ : Nat → Nat → Int32} {ρ : Nat → Nat → Nat} {x1 x2 : Int32} {a0 : Nat} (h : ((K a0 = 12) ∧ ∃ v : Value, ∃ κ' ρ', ev 54 [.ref a0, .int x1] (Mm sz sl K L κ ρ) (some (v)) (Mm sz sl K L κ' ρ') ∧ wpE (xT 53) ev Q (5, [(0, .ref a0), (1, .int x1), (2, .int x2)], [v], Mm sz sl K L κ' ρ'))) : wpE (xT 53) ev Q (0, [(0, .ref a0), (1, .int x1), (2, .int x2)], [], Mm sz sl K L κ ρ) := by
  refine p_ald (cc3 c53_0) rfl ?_
  refine p_ild (cc3 c53_1) rfl ?_
  obtain ⟨g1, h⟩ := h
  obtain ⟨v, κ', ρ', he, h⟩ := h
  exact p_callV (cc3 c53_2) (Nat.le_of_ble_eq_true rfl) rfl rfl (Nat.le_of_ble_eq_true rfl) g1 he h
theorem B53_5 {ev : xV} {Q : Option Value → xM → Prop} {sz sl : Nat} {K L : Nat → Nat} {κ : Nat → Nat → Int32} {ρ : Nat → Nat → Nat} {x1 x2 : Int32} {a0 b0 : Nat} (h : ((K b0 = 1) ∧ ∃ r κ' ρ', ev 55 [.ref b0, .int x2] (Mm sz sl K L κ ρ) (some (.int r)) (Mm sz sl K L κ' ρ') ∧ wpE (xT 53) ev Q (20, [], [.int r], Mm sz sl K L κ' ρ'))) : wpE (xT 53) ev Q (5, [(0, .ref a0), (1, .int x1), (2, .int x2)], [.ref b0], Mm sz sl K L κ ρ) := by
  refine p_ast (ls' := [(3, .ref b0), (0, .ref a0), (1, .int x1), (2, .int x2)]) (cc3 c53_5) (by decide) rfl ?_
  refine p_ald (cc3 c53_6) rfl ?_
  refine p_ifnR (cc3 c53_7) ?_
  refine p_ald (cc3 c53_15) rfl ?_
  refine p_ild (cc3 c53_16) rfl ?_
  obtain ⟨g1, h⟩ := h
  obtain ⟨r, κ', ρ', he, h⟩ := h
  exact p_callV (cc3 c53_17) (Nat.le_of_ble_eq_true rfl) rfl rfl (Nat.le_of_ble_eq_true rfl) g1 he (p_lc (ls' := []) c53_20 rfl rfl h)
theorem B53_5n {ev : xV} {Q : Option Value → xM → Prop} {sz sl : Nat} {K L : Nat → Nat} {κ : Nat → Nat → Int32} {ρ : Nat → Nat → Nat} {x1 x2 : Int32} {a0 : Nat} (h : Q (some (.int ((-2)))) (Mm sz sl K L κ ρ)) : wpE (xT 53) ev Q (5, [(0, .ref a0), (1, .int x1), (2, .int x2)], [.null], Mm sz sl K L κ ρ) := by
  refine p_astN (ls' := [(3, .null), (0, .ref a0), (1, .int x1), (2, .int x2)]) (cc3 c53_5) (by decide) rfl ?_
  refine p_aldN (cc3 c53_6) rfl ?_
  refine p_ifnN (cc3 c53_7) ?_
  refine p_push (cc3 c53_10) ?_
  refine p_goto (cc3 c53_12) ?_
  refine p_lc (ls' := []) c53_20 rfl rfl ?_
  exact p_ri (cct c53_20 rfl) trivial h
theorem B53_20 {ev : xV} {Q : Option Value → xM → Prop} {sz sl : Nat} {K L : Nat → Nat} {κ : Nat → Nat → Int32} {ρ : Nat → Nat → Nat} {s0 : Int32} (h : Q (some (.int s0)) (Mm sz sl K L κ ρ)) : wpE (xT 53) ev Q (20, [], [.int s0], Mm sz sl K L κ ρ) := by
  exact p_ri (cct c53_20 rfl) trivial h
theorem B54_0 {ev : xV} {Q : Option Value → xM → Prop} {sz sl : Nat} {K L : Nat → Nat} {κ : Nat → Nat → Int32} {ρ : Nat → Nat → Nat} {x1 : Int32} {a0 : Nat} (h : ((x1 < 0) → Q (some (.null)) (Mm sz sl K L κ ρ)) ∧ (¬ (x1 < 0) → (K a0 = 12) ∧ ((x1 < (κ a0 11)) → (¬ ρ a0 6 = 0) ∧ (K (ρ a0 6) = 24) ∧ (vp_in x1 (L (ρ a0 6))) ∧ (¬ ρ (ρ a0 6) x1.toNatClampNeg = 0) ∧ Q (some (.ref (ρ (ρ a0 6) x1.toNatClampNeg))) (Mm sz sl K L κ ρ)) ∧ (¬ (x1 < (κ a0 11)) → Q (some (.null)) (Mm sz sl K L κ ρ)))) : wpE (xT 54) ev Q (0, [(0, .ref a0), (1, .int x1)], [], Mm sz sl K L κ ρ) := by
  refine p_ild (cc3 c54_0) rfl ?_
  refine p_if (cc3 c54_1) (fun c => ?_) (fun c => ?_)
  · have h := h.1 c
    refine p_lc (ls' := []) c54_12 rfl rfl ?_
    refine p_push (cct c54_12 rfl) ?_
    refine p_goto (cc3 c54_13) ?_
    exact p_raN (cct c54_22 rfl) h
  · have h := h.2 c
    refine p_ild (cc3 c54_4) rfl ?_
    refine p_ald (cc3 c54_5) rfl ?_
    obtain ⟨g1, h⟩ := h
    refine p_geti (cc3 c54_6) g1 rfl ?_
    refine p_icmp (cc3 c54_9) (fun c => ?_) (fun c => ?_)
    · have h := h.1 c
      refine p_ald (cc3 c54_16) rfl ?_
      obtain ⟨g2, h⟩ := h
      refine p_getp (cc3 c54_17) g1 rfl g2 ?_
      refine p_ild (cc3 c54_20) rfl ?_
      obtain ⟨g3, h⟩ := h
      obtain ⟨g4, h⟩ := h
      obtain ⟨g5, h⟩ := h
      refine p_aldp (cc3 c54_21) g3 g4 rfl g5 ?_
      refine p_lc (ls' := []) c54_22 rfl rfl ?_
      exact p_ra (cct c54_22 rfl) h
    · have h := h.2 c
      refine p_lc (ls' := []) c54_12 rfl rfl ?_
      refine p_push (cct c54_12 rfl) ?_
      refine p_goto (cc3 c54_13) ?_
      exact p_raN (cct c54_22 rfl) h
theorem B55_0 {ev : xV} {Q : Option Value → xM → Prop} {sz sl : Nat} {K L : Nat → Nat} {κ : Nat → Nat → Int32} {ρ : Nat → Nat → Nat} {x1 : Int32} {a0 : Nat} (h : ((x1 < 0) → Q (some (.int ((-2)))) (Mm sz sl K L κ ρ)) ∧ (¬ (x1 < 0) → (K a0 = 1) ∧ (((κ a0 2) ≤ x1) → Q (some (.int ((-2)))) (Mm sz sl K L κ ρ)) ∧ (¬ ((κ a0 2) ≤ x1) → (∃ r κ' ρ', ev 56 [.ref a0, .int x1, .int 1] (Mm sz sl K L κ ρ) (some (.int r)) (Mm sz sl K L κ' ρ') ∧ wpE (xT 55) ev Q (18, [(0, .ref a0), (1, .int x1)], [.int r], Mm sz sl K L κ' ρ'))))) : wpE (xT 55) ev Q (0, [(0, .ref a0), (1, .int x1)], [], Mm sz sl K L κ ρ) := by
  refine p_ild (cc3 c55_0) rfl ?_
  refine p_if (cc3 c55_1) (fun c => ?_) (fun c => ?_)
  · have h := h.1 c
    refine p_lc (ls' := []) c55_21 rfl rfl ?_
    refine p_push (cct c55_21 rfl) ?_
    exact p_ri (cc3 c55_23) trivial h
  · have h := h.2 c
    refine p_ild (cc3 c55_4) rfl ?_
    refine p_ald (cc3 c55_5) rfl ?_
    obtain ⟨g1, h⟩ := h
    refine p_geti (cc3 c55_6) g1 rfl ?_
    refine p_icmp (cc3 c55_9) (fun c => ?_) (fun c => ?_)
    · have h := h.1 c
      refine p_lc (ls' := []) c55_21 rfl rfl ?_
      refine p_push (cct c55_21 rfl) ?_
      exact p_ri (cc3 c55_23) trivial h
    · have h := h.2 c
      refine p_ald (cc3 c55_12) rfl ?_
      refine p_ild (cc3 c55_13) rfl ?_
      refine p_push (cc3 c55_14) ?_
      obtain ⟨r, κ', ρ', he, h⟩ := h
      exact p_callV (cc3 c55_15) (Nat.le_of_ble_eq_true rfl) rfl rfl (Nat.le_of_ble_eq_true rfl) g1 he h
theorem B55_18 {ev : xV} {Q : Option Value → xM → Prop} {sz sl : Nat} {K L : Nat → Nat} {κ : Nat → Nat → Int32} {ρ : Nat → Nat → Nat} {x1 s0 : Int32} {a0 : Nat} (h : ((s0 = 0) → Q (some (.int ((-2)))) (Mm sz sl K L κ ρ)) ∧ (¬ (s0 = 0) → (K a0 = 1) ∧ (((κ a0 4) < 10) → (¬ ρ a0 3 = 0) ∧ (K (ρ a0 3) = 20) ∧ (vp_in (κ a0 4) (L (ρ a0 3))) ∧ Q (some (.int ((U (U κ (ρ a0 3) (κ a0 4).toNatClampNeg x1) a0 4 (((U κ (ρ a0 3) (κ a0 4).toNatClampNeg x1) a0 4) + 1)) a0 4))) (Mm sz sl K L (U (U κ (ρ a0 3) (κ a0 4).toNatClampNeg x1) a0 4 (((U κ (ρ a0 3) (κ a0 4).toNatClampNeg x1) a0 4) + 1)) ρ)) ∧ (¬ ((κ a0 4) < 10) → Q (some (.int ((-4)))) (Mm sz sl K L κ ρ)))) : wpE (xT 55) ev Q (18, [(0, .ref a0), (1, .int x1)], [.int s0], Mm sz sl K L κ ρ) := by
  refine p_if (cc3 c55_18) (fun c => ?_) (fun c => ?_)
  · have h := h.1 c
    refine p_lc (ls' := []) c55_21 rfl rfl ?_
    refine p_push (cct c55_21 rfl) ?_
    exact p_ri (cc3 c55_23) trivial h
  · have h := h.2 c
    refine p_ald (cc3 c55_24) rfl ?_
    obtain ⟨g1, h⟩ := h
    refine p_geti (cc3 c55_25) g1 rfl ?_
    refine p_push (cc3 c55_28) ?_
    refine p_icmp (cc3 c55_30) (fun c => ?_) (fun c => ?_)
    · have h := h.1 c
      refine p_ald (cc3 c55_36) rfl ?_
      obtain ⟨g2, h⟩ := h
      refine p_getp (cc3 c55_37) g1 rfl g2 ?_
      refine p_ald (cc3 c55_40) rfl ?_
      refine p_geti (cc3 c55_41) g1 rfl ?_
      refine p_ild (cc3 c55_44) rfl ?_
      obtain ⟨g3, h⟩ := h
      obtain ⟨g4, h⟩ := h
      refine p_asti (cc3 c55_45) g3 g4 mm_xpi ?_
      refine p_ald (cc3 c55_46) rfl ?_
      refine p_dup (cc3 c55_47) rfl ?_
      refine p_geti (cc3 c55_48) g1 rfl ?_
      refine p_push (cc3 c55_51) ?_
      refine p_bin (cc3 c55_52) ?_
      refine p_puti (cc3 c55_53) g1 mm_xpi ?_
      refine p_ald (cc3 c55_56) rfl ?_
      refine p_geti (cc3 c55_57) g1 rfl ?_
      exact p_ri (cc3 c55_60) trivial h
    · have h := h.2 c
      refine p_push (cc3 c55_33) ?_
      exact p_ri (cc3 c55_35) trivial h
theorem B56_0 {ev : xV} {Q : Option Value → xM → Prop} {sz sl : Nat} {K L : Nat → Nat} {κ : Nat → Nat → Int32} {ρ : Nat → Nat → Nat} {x1 x2 : Int32} {a0 : Nat} (h : wpE (xT 56) ev Q (2, [(0, .ref a0), (1, .int x1), (2, .int x2), (3, .int 0)], [], Mm sz sl K L κ ρ)) : wpE (xT 56) ev Q (0, [(0, .ref a0), (1, .int x1), (2, .int x2)], [], Mm sz sl K L κ ρ) := by
  refine p_push (cc3 c56_0) ?_
  refine p_ist (ls' := [(3, .int 0), (0, .ref a0), (1, .int x1), (2, .int x2)]) (cc3 c56_1) (by decide) rfl ?_
  exact p_lc (ls' := [(0, .ref a0), (1, .int x1), (2, .int x2), (3, .int 0)]) c56_2 rfl rfl h
theorem B56_2 {ev : xV} {Q : Option Value → xM → Prop} {sz sl : Nat} {K L : Nat → Nat} {κ : Nat → Nat → Int32} {ρ : Nat → Nat → Nat} {x1 x2 x3 : Int32} {a0 : Nat} (h : (K a0 = 1) ∧ (((κ a0 4) ≤ x3) → Q (some (.int 1)) (Mm sz sl K L κ ρ)) ∧ (¬ ((κ a0 4) ≤ x3) → ((10 ≤ x3) → Q (some (.int 1)) (Mm sz sl K L κ ρ)) ∧ (¬ (10 ≤ x3) → (¬ ρ a0 3 = 0) ∧ (K (ρ a0 3) = 20) ∧ (vp_in x3 (L (ρ a0 3))) ∧ (((κ (ρ a0 3) x3.toNatClampNeg) < x1) → wpE (xT 56) ev Q (2, [(0, .ref a0), (1, .int x1), (2, .int x2), (3, .int (x3 + 1))], [], Mm sz sl K L κ ρ)) ∧ (¬ ((κ (ρ a0 3) x3.toNatClampNeg) < x1) → (((x1 + x2) ≤ (κ (ρ a0 3) x3.toNatClampNeg)) → wpE (xT 56) ev Q (2, [(0, .ref a0), (1, .int x1), (2, .int x2), (3, .int (x3 + 1))], [], Mm sz sl K L κ ρ)) ∧ (¬ ((x1 + x2) ≤ (κ (ρ a0 3) x3.toNatClampNeg)) → Q (some (.int 0)) (Mm sz sl K L κ ρ)))))) : wpE (xT 56) ev Q (2, [(0, .ref a0), (1, .int x1), (2, .int x2), (3, .int x3)], [], Mm sz sl K L κ ρ) := by
  refine p_ild (cct c56_2 rfl) rfl ?_
  refine p_ald (cc3 c56_3) rfl ?_
  obtain ⟨g1, h⟩ := h
  refine p_geti (cc3 c56_4) g1 rfl ?_
  refine p_icmp (cc3 c56_7) (fun c => ?_) (fun c => ?_)
  · have h := h.1 c
    refine p_lc (ls' := []) c56_46 rfl rfl ?_
    refine p_push (cct c56_46 rfl) ?_
    exact p_ri (cc3 c56_47) (by decide) h
  · have h := h.2 c
    refine p_ild (cc3 c56_10) rfl ?_
    refine p_push (cc3 c56_11) ?_
    refine p_icmp (cc3 c56_13) (fun c => ?_) (fun c => ?_)
    · have h := h.1 c
      refine p_lc (ls' := []) c56_46 rfl rfl ?_
      refine p_push (cct c56_46 rfl) ?_
      exact p_ri (cc3 c56_47) (by decide) h
    · have h := h.2 c
      refine p_ald (cc3 c56_16) rfl ?_
      obtain ⟨g2, h⟩ := h
      refine p_getp (cc3 c56_17) g1 rfl g2 ?_
      refine p_ild (cc3 c56_20) rfl ?_
      obtain ⟨g3, h⟩ := h
      obtain ⟨g4, h⟩ := h
      refine p_aldi (cc3 c56_21) g3 g4 rfl ?_
      refine p_ild (cc3 c56_22) rfl ?_
      refine p_icmp (cc3 c56_23) (fun c => ?_) (fun c => ?_)
      · have h := h.1 c
        refine p_iinc (y := x3 + 1) (ls' := [(3, .int (x3 + 1)), (0, .ref a0), (1, .int x1), (2, .int x2)]) (cct c56_40 rfl) (by decide) rfl rfl rfl ?_
        refine p_goto (cc3 c56_43) ?_
        exact p_lc (ls' := [(0, .ref a0), (1, .int x1), (2, .int x2), (3, .int (x3 + 1))]) c56_2 rfl rfl h
      · have h := h.2 c
        refine p_ald (cc3 c56_26) rfl ?_
        refine p_getp (cc3 c56_27) g1 rfl g2 ?_
        refine p_ild (cc3 c56_30) rfl ?_
        refine p_aldi (cc3 c56_31) g3 g4 rfl ?_
        refine p_ild (cc3 c56_32) rfl ?_
        refine p_ild (cc3 c56_33) rfl ?_
        refine p_bin (cc3 c56_34) ?_
        refine p_icmp (cc3 c56_35) (fun c => ?_) (fun c => ?_)
        · have h := h.1 c
          refine p_iinc (y := x3 + 1) (ls' := [(3, .int (x3 + 1)), (0, .ref a0), (1, .int x1), (2, .int x2)]) (cct c56_40 rfl) (by decide) rfl rfl rfl ?_
          refine p_goto (cc3 c56_43) ?_
          exact p_lc (ls' := [(0, .ref a0), (1, .int x1), (2, .int x2), (3, .int (x3 + 1))]) c56_2 rfl rfl h
        · have h := h.2 c
          refine p_push (cc3 c56_38) ?_
          exact p_ri (cc3 c56_39) (by decide) h
theorem B57_0 {ev : xV} {Q : Option Value → xM → Prop} {sz sl : Nat} {K L : Nat → Nat} {κ : Nat → Nat → Int32} {ρ : Nat → Nat → Nat} {x1 x2 x3 x4 : Int32} {a0 : Nat} (h : ((x1 < 0) → Q (some (.int ((-2)))) (Mm sz sl K L κ ρ)) ∧ (¬ (x1 < 0) → ((6 ≤ x1) → Q (some (.int ((-2)))) (Mm sz sl K L κ ρ)) ∧ (¬ (6 ≤ x1) → ((x4 < 0) → Q (some (.int ((-2)))) (Mm sz sl K L κ ρ)) ∧ (¬ (x4 < 0) → ((10 ≤ x4) → Q (some (.int ((-2)))) (Mm sz sl K L κ ρ)) ∧ (¬ (10 ≤ x4) → (∃ r κ' ρ', ev 58 [.int (x2 / 100), .int (x2 - x2 / 100 * 100), .int (x3 / 100), .int (x3 - x3 / 100 * 100)] (Mm sz sl K L κ ρ) (some (.int r)) (Mm sz sl K L κ' ρ') ∧ wpE (xT 57) ev Q (57, [(8, .int (x3 - x3 / 100 * 100)), (7, .int (x3 / 100)), (6, .int (x2 - x2 / 100 * 100)), (5, .int (x2 / 100)), (0, .ref a0), (1, .int x1), (2, .int x2), (3, .int x3), (4, .int x4)], [.int r], Mm sz sl K L κ' ρ'))))))) : wpE (xT 57) ev Q (0, [(0, .ref a0), (1, .int x1), (2, .int x2), (3, .int x3), (4, .int x4)], [], Mm sz sl K L κ ρ) := by
  refine p_ild (cc3 c57_0) rfl ?_
  refine p_push (cc3 c57_1) ?_
  refine p_div (cc3 c57_3) (by decide) ?_
  refine p_ist (ls' := [(5, .int (x2 / 100)), (0, .ref a0), (1, .int x1), (2, .int x2), (3, .int x3), (4, .int x4)]) (cc3 c57_4) (by decide) rfl ?_
  refine p_ild (cc3 c57_6) rfl ?_
  refine p_push (cc3 c57_7) ?_
  refine p_div (cc3 c57_9) (by decide) ?_
  refine p_ist (ls' := [(6, .int (x2 - x2 / 100 * 100)), (5, .int (x2 / 100)), (0, .ref a0), (1, .int x1), (2, .int x2), (3, .int x3), (4, .int x4)]) (cc3 c57_10) (by decide) rfl ?_
  refine p_ild (cc3 c57_12) rfl ?_
  refine p_push (cc3 c57_13) ?_
  refine p_div (cc3 c57_15) (by decide) ?_
  refine p_ist (ls' := [(7, .int (x3 / 100)), (6, .int (x2 - x2 / 100 * 100)), (5, .int (x2 / 100)), (0, .ref a0), (1, .int x1), (2, .int x2), (3, .int x3), (4, .int x4)]) (cc3 c57_16) (by decide) rfl ?_
  refine p_ild (cc3 c57_18) rfl ?_
  refine p_push (cc3 c57_19) ?_
  refine p_div (cc3 c57_21) (by decide) ?_
  refine p_ist (ls' := [(8, .int (x3 - x3 / 100 * 100)), (7, .int (x3 / 100)), (6, .int (x2 - x2 / 100 * 100)), (5, .int (x2 / 100)), (0, .ref a0), (1, .int x1), (2, .int x2), (3, .int x3), (4, .int x4)]) (cc3 c57_22) (by decide) rfl ?_
  refine p_ild (cc3 c57_24) rfl ?_
  refine p_if (cc3 c57_25) (fun c => ?_) (fun c => ?_)
  · have h := h.1 c
    refine p_lc (ls' := []) c57_60 rfl rfl ?_
    refine p_push (cct c57_60 rfl) ?_
    exact p_ri (cc3 c57_62) trivial h
  · have h := h.2 c
    refine p_ild (cc3 c57_28) rfl ?_
    refine p_push (cc3 c57_29) ?_
    refine p_icmp (cc3 c57_31) (fun c => ?_) (fun c => ?_)
    · have h := h.1 c
      refine p_lc (ls' := []) c57_60 rfl rfl ?_
      refine p_push (cct c57_60 rfl) ?_
      exact p_ri (cc3 c57_62) trivial h
    · have h := h.2 c
      refine p_ild (cc3 c57_34) rfl ?_
      refine p_if (cc3 c57_36) (fun c => ?_) (fun c => ?_)
      · have h := h.1 c
        refine p_lc (ls' := []) c57_60 rfl rfl ?_
        refine p_push (cct c57_60 rfl) ?_
        exact p_ri (cc3 c57_62) trivial h
      · have h := h.2 c
        refine p_ild (cc3 c57_39) rfl ?_
        refine p_push (cc3 c57_41) ?_
        refine p_icmp (cc3 c57_43) (fun c => ?_) (fun c => ?_)
        · have h := h.1 c
          refine p_lc (ls' := []) c57_60 rfl rfl ?_
          refine p_push (cct c57_60 rfl) ?_
          exact p_ri (cc3 c57_62) trivial h
        · have h := h.2 c
          refine p_ild (cc3 c57_46) rfl ?_
          refine p_ild (cc3 c57_48) rfl ?_
          refine p_ild (cc3 c57_50) rfl ?_
          refine p_ild (cc3 c57_52) rfl ?_
          obtain ⟨r, κ', ρ', he, h⟩ := h
          exact p_callS (cc3 c57_54) (Nat.le_of_ble_eq_true rfl) rfl rfl (Nat.le_of_ble_eq_true rfl) he h
theorem B57_57 {ev : xV} {Q : Option Value → xM → Prop} {sz sl : Nat} {K L : Nat → Nat} {κ : Nat → Nat → Int32} {ρ : Nat → Nat → Nat} {x8 x7 x6 x5 x1 x2 x3 x4 s0 : Int32} {a0 : Nat} (h : ((s0 = 0) → Q (some (.int ((-2)))) (Mm sz sl K L κ ρ)) ∧ (¬ (s0 = 0) → (K a0 = 12) ∧ (((κ a0 12) < 8) → (¬ ρ a0 7 = 0) ∧ (∃ sz' sl' K' L' κ' ρ', ev 62 [.ref sz, .int x1, .int x5, .int x6, .int x7, .int x8, .int x4] (Mm (sz + 1) (sl + 16) (va_up K sz 3) (va_up L sz 16) (Z0 κ sz) (ZR ρ sz)) none (Mm sz' sl' K' L' κ' ρ') ∧ wpE (xT 57) ev Q (101, [(8, .int x8), (7, .int x7), (6, .int x6), (5, .int x5), (0, .ref a0), (1, .int x1), (2, .int x2), (3, .int x3), (4, .int x4)], [.ref sz, .int (κ a0 12), .ref (ρ a0 7)], Mm sz' sl' K' L' κ' ρ'))) ∧ (¬ ((κ a0 12) < 8) → Q (some (.int ((-4)))) (Mm sz sl K L κ ρ)))) : wpE (xT 57) ev Q (57, [(8, .int x8), (7, .int x7), (6, .int x6), (5, .int x5), (0, .ref a0), (1, .int x1), (2, .int x2), (3, .int x3), (4, .int x4)], [.int s0], Mm sz sl K L κ ρ) := by
  refine p_if (cc3 c57_57) (fun c => ?_) (fun c => ?_)
  · have h := h.1 c
    refine p_lc (ls' := []) c57_60 rfl rfl ?_
    refine p_push (cct c57_60 rfl) ?_
    exact p_ri (cc3 c57_62) trivial h
  · have h := h.2 c
    refine p_ald (cc3 c57_63) rfl ?_
    obtain ⟨g1, h⟩ := h
    refine p_geti (cc3 c57_64) g1 rfl ?_
    refine p_push (cc3 c57_67) ?_
    refine p_icmp (cc3 c57_69) (fun c => ?_) (fun c => ?_)
    · have h := h.1 c
      refine p_ald (cc3 c57_75) rfl ?_
      obtain ⟨g2, h⟩ := h
      refine p_getp (cc3 c57_76) g1 rfl g2 ?_
      refine p_ald (cc3 c57_79) rfl ?_
      refine p_geti (cc3 c57_80) g1 rfl ?_
      refine p_new (cc3 c57_83) mm_new ?_
      refine p_dup (cc3 c57_86) rfl ?_
      refine p_ild (cc3 c57_87) rfl ?_
      refine p_ild (cc3 c57_88) rfl ?_
      refine p_ild (cc3 c57_90) rfl ?_
      refine p_ild (cc3 c57_92) rfl ?_
      refine p_ild (cc3 c57_94) rfl ?_
      refine p_ild (cc3 c57_96) rfl ?_
      obtain ⟨sz', sl', K', L', κ', ρ', he, h⟩ := h
      exact p_callI (cc3 c57_98) (Nat.le_of_ble_eq_true rfl) rfl rfl (Nat.le_of_ble_eq_true rfl) he h
    · have h := h.2 c
      refine p_push (cc3 c57_72) ?_
      exact p_ri (cc3 c57_74) trivial h
theorem B57_101 {ev : xV} {Q : Option Value → xM → Prop} {sz sl : Nat} {K L : Nat → Nat} {κ : Nat → Nat → Int32} {ρ : Nat → Nat → Nat} {x8 x7 x6 x5 x1 x2 x3 x4 s1 : Int32} {a0 b0 b2 : Nat} (h : (K b2 = 25) ∧ (vp_in s1 (L b2)) ∧ (K b0 = 3) ∧ (¬ b0 = 0) ∧ (K a0 = 12) ∧ Q (some (.int (((U κ a0 12 ((κ a0 12) + 1)) a0 12) - 1))) (Mm sz sl K L (U κ a0 12 ((κ a0 12) + 1)) (UR ρ b2 s1.toNatClampNeg b0))) : wpE (xT 57) ev Q (101, [(8, .int x8), (7, .int x7), (6, .int x6), (5, .int x5), (0, .ref a0), (1, .int x1), (2, .int x2), (3, .int x3), (4, .int x4)], [.ref b0, .int s1, .ref b2], Mm sz sl K L κ ρ) := by
  obtain ⟨g1, h⟩ := h
  obtain ⟨g2, h⟩ := h
  obtain ⟨g3, h⟩ := h
  obtain ⟨g4, h⟩ := h
  refine p_astp (cc3 c57_101) g1 g2 g3 g4 mm_xpp ?_
  refine p_ald (cc3 c57_102) rfl ?_
  refine p_dup (cc3 c57_103) rfl ?_
  obtain ⟨g5, h⟩ := h
  refine p_geti (cc3 c57_104) g5 rfl ?_
  refine p_push (cc3 c57_107) ?_
  refine p_bin (cc3 c57_108) ?_
  refine p_puti (cc3 c57_109) g5 mm_xpi ?_
  refine p_ald (cc3 c57_112) rfl ?_
  refine p_geti (cc3 c57_113) g5 rfl ?_
  refine p_push (cc3 c57_116) ?_
  refine p_bin (cc3 c57_117) ?_
  exact p_ri (cc3 c57_118) trivial h
theorem B58_0 {ev : xV} {Q : Option Value → xM → Prop} {sz sl : Nat} {K L : Nat → Nat} {κ : Nat → Nat → Int32} {ρ : Nat → Nat → Nat} {x0 x1 x2 x3 : Int32} (h : ((x0 < 4) → Q (some (.int 0)) (Mm sz sl K L κ ρ)) ∧ (¬ (x0 < 4) → ((40 < x0) → Q (some (.int 0)) (Mm sz sl K L κ ρ)) ∧ (¬ (40 < x0) → ((x1 < 20) → Q (some (.int 0)) (Mm sz sl K L κ ρ)) ∧ (¬ (x1 < 20) → ((60 < x1) → Q (some (.int 0)) (Mm sz sl K L κ ρ)) ∧ (¬ (60 < x1) → ((x3 < 20) → Q (some (.int 0)) (Mm sz sl K L κ ρ)) ∧ (¬ (x3 < 20) → ((x1 < x3) → Q (some (.int 0)) (Mm sz sl K L κ ρ)) ∧ (¬ (x1 < x3) → ((x2 < 4) → Q (some (.int 0)) (Mm sz sl K L κ ρ)) ∧ (¬ (x2 < 4) → ((x2 ≤ 24) → (∃ r κ' ρ', ev 59 [.int x0, .int x1, .int x3] (Mm sz sl K L κ ρ) (some (.int r)) (Mm sz sl K L κ' ρ') ∧ wpE (xT 58) ev Q (53, [(0, .int x0), (1, .int x1), (2, .int x2), (3, .int x3)], [.int r], Mm sz sl K L κ' ρ'))) ∧ (¬ (x2 ≤ 24) → Q (some (.int 0)) (Mm sz sl K L κ ρ)))))))))) : wpE (xT 58) ev Q (0, [(0, .int x0), (1, .int x1), (2, .int x2), (3, .int x3)], [], Mm sz sl K L κ ρ) := by
  refine p_ild (cc3 c58_0) rfl ?_
  refine p_push (cc3 c58_1) ?_
  refine p_icmp (cc3 c58_2) (fun c => ?_) (fun c => ?_)
  · have h := h.1 c
    refine p_lc (ls' := []) c58_45 rfl rfl ?_
    refine p_push (cct c58_45 rfl) ?_
    exact p_ri (cc3 c58_46) (by decide) h
  · have h := h.2 c
    refine p_ild (cc3 c58_5) rfl ?_
    refine p_push (cc3 c58_6) ?_
    refine p_icmp (cc3 c58_8) (fun c => ?_) (fun c => ?_)
    · have h := h.1 c
      refine p_lc (ls' := []) c58_45 rfl rfl ?_
      refine p_push (cct c58_45 rfl) ?_
      exact p_ri (cc3 c58_46) (by decide) h
    · have h := h.2 c
      refine p_ild (cc3 c58_11) rfl ?_
      refine p_push (cc3 c58_12) ?_
      refine p_icmp (cc3 c58_14) (fun c => ?_) (fun c => ?_)
      · have h := h.1 c
        refine p_lc (ls' := []) c58_45 rfl rfl ?_
        refine p_push (cct c58_45 rfl) ?_
        exact p_ri (cc3 c58_46) (by decide) h
      · have h := h.2 c
        refine p_ild (cc3 c58_17) rfl ?_
        refine p_push (cc3 c58_18) ?_
        refine p_icmp (cc3 c58_20) (fun c => ?_) (fun c => ?_)
        · have h := h.1 c
          refine p_lc (ls' := []) c58_45 rfl rfl ?_
          refine p_push (cct c58_45 rfl) ?_
          exact p_ri (cc3 c58_46) (by decide) h
        · have h := h.2 c
          refine p_ild (cc3 c58_23) rfl ?_
          refine p_push (cc3 c58_24) ?_
          refine p_icmp (cc3 c58_26) (fun c => ?_) (fun c => ?_)
          · have h := h.1 c
            refine p_lc (ls' := []) c58_45 rfl rfl ?_
            refine p_push (cct c58_45 rfl) ?_
            exact p_ri (cc3 c58_46) (by decide) h
          · have h := h.2 c
            refine p_ild (cc3 c58_29) rfl ?_
            refine p_ild (cc3 c58_30) rfl ?_
            refine p_icmp (cc3 c58_31) (fun c => ?_) (fun c => ?_)
            · have h := h.1 c
              refine p_lc (ls' := []) c58_45 rfl rfl ?_
              refine p_push (cct c58_45 rfl) ?_
              exact p_ri (cc3 c58_46) (by decide) h
            · have h := h.2 c
              refine p_ild (cc3 c58_34) rfl ?_
              refine p_push (cc3 c58_35) ?_
              refine p_icmp (cc3 c58_36) (fun c => ?_) (fun c => ?_)
              · have h := h.1 c
                refine p_lc (ls' := []) c58_45 rfl rfl ?_
                refine p_push (cct c58_45 rfl) ?_
                exact p_ri (cc3 c58_46) (by decide) h
              · have h := h.2 c
                refine p_ild (cc3 c58_39) rfl ?_
                refine p_push (cc3 c58_40) ?_
                refine p_icmp (cc3 c58_42) (fun c => ?_) (fun c => ?_)
                · have h := h.1 c
                  refine p_ild (cc3 c58_47) rfl ?_
                  refine p_ild (cc3 c58_48) rfl ?_
                  refine p_ild (cc3 c58_49) rfl ?_
                  obtain ⟨r, κ', ρ', he, h⟩ := h
                  exact p_callS (cc3 c58_50) (Nat.le_of_ble_eq_true rfl) rfl rfl (Nat.le_of_ble_eq_true rfl) he h
                · have h := h.2 c
                  refine p_lc (ls' := []) c58_45 rfl rfl ?_
                  refine p_push (cct c58_45 rfl) ?_
                  exact p_ri (cc3 c58_46) (by decide) h
theorem B58_53 {ev : xV} {Q : Option Value → xM → Prop} {sz sl : Nat} {K L : Nat → Nat} {κ : Nat → Nat → Int32} {ρ : Nat → Nat → Nat} {x0 x1 x2 x3 s0 : Int32} (h : (∃ r κ' ρ', ev 60 [.int x0, .int x1, .int x2] (Mm sz sl K L κ ρ) (some (.int r)) (Mm sz sl K L κ' ρ') ∧ wpE (xT 58) ev Q (60, [(0, .int x0), (1, .int x1), (2, .int x2), (3, .int x3)], [.int r, .int x2, .int s0], Mm sz sl K L κ' ρ'))) : wpE (xT 58) ev Q (53, [(0, .int x0), (1, .int x1), (2, .int x2), (3, .int x3)], [.int s0], Mm sz sl K L κ ρ) := by
  refine p_ild (cc3 c58_53) rfl ?_
  refine p_ild (cc3 c58_54) rfl ?_
  refine p_ild (cc3 c58_55) rfl ?_
  refine p_ild (cc3 c58_56) rfl ?_
  obtain ⟨r, κ', ρ', he, h⟩ := h
  exact p_callS (cc3 c58_57) (Nat.le_of_ble_eq_true rfl) rfl rfl (Nat.le_of_ble_eq_true rfl) he h
theorem B58_60 {ev : xV} {Q : Option Value → xM → Prop} {sz sl : Nat} {K L : Nat → Nat} {κ : Nat → Nat → Int32} {ρ : Nat → Nat → Nat} {x0 x1 x2 x3 s0 s1 s2 : Int32} (h : ((((s1 * (s0 - 1)) + 1) ≤ s2) → Q (some (.int 0)) (Mm sz sl K L κ ρ)) ∧ (¬ (((s1 * (s0 - 1)) + 1) ≤ s2) → Q (some (.int 1)) (Mm sz sl K L κ ρ))) : wpE (xT 58) ev Q (60, [(0, .int x0), (1, .int x1), (2, .int x2), (3, .int x3)], [.int s0, .int s1, .int s2], Mm sz sl K L κ ρ) := by
  refine p_push (cc3 c58_60) ?_
  refine p_bin (cc3 c58_61) ?_
  refine p_bin (cc3 c58_62) ?_
  refine p_push (cc3 c58_63) ?_
  refine p_bin (cc3 c58_64) ?_
  refine p_icmp (cc3 c58_65) (fun c => ?_) (fun c => ?_)
  · have h := h.1 c
    refine p_push (cc3 c58_72) ?_
    refine p_lc (ls' := []) c58_73 rfl rfl ?_
    exact p_ri (cct c58_73 rfl) (by decide) h
  · have h := h.2 c
    refine p_push (cc3 c58_68) ?_
    refine p_goto (cc3 c58_69) ?_
    refine p_lc (ls' := []) c58_73 rfl rfl ?_
    exact p_ri (cct c58_73 rfl) (by decide) h
