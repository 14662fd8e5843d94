theorem B59_0 {ev : xV} {Q : Option Value → xM → Prop} {sz sl : Nat} {K L : Nat → Nat} {κ : Nat → Nat → Int32} {ρ : Nat → Nat → Nat} {x0 x1 x2 : Int32} (h : Q (some (.int (((x1 - x2) * x0) / 2))) (Mm sz sl K L κ ρ)) : wpE (xT 59) ev Q (0, [(0, .int x0), (1, .int x1), (2, .int x2)], [], Mm sz sl K L κ ρ) := by
  refine p_ild (cc3 c59_0) rfl ?_
  refine p_ild (cc3 c59_1) rfl ?_
  refine p_bin (cc3 c59_2) ?_
  refine p_ild (cc3 c59_3) rfl ?_
  refine p_bin (cc3 c59_4) ?_
  refine p_push (cc3 c59_5) ?_
  refine p_div (cc3 c59_6) (by decide) ?_
  exact p_ri (cc3 c59_7) trivial h
theorem B60_0 {ev : xV} {Q : Option Value → xM → Prop} {sz sl : Nat} {K L : Nat → Nat} {κ : Nat → Nat → Int32} {ρ : Nat → Nat → Nat} {x0 x1 x2 : Int32} (h : ((1 ≤ x2) → (¬ (2 * x2) = 0) ∧ (∃ r κ' ρ', ev 61 [.int 1, .int ((x1 * x0) / (2 * x2))] (Mm sz sl K L κ ρ) (some (.int r)) (Mm sz sl K L κ' ρ') ∧ wpE (xT 60) ev Q (20, [], [.int r], Mm sz sl K L κ' ρ'))) ∧ (¬ (1 ≤ x2) → Q (some (.int 1)) (Mm sz sl K L κ ρ))) : wpE (xT 60) ev Q (0, [(0, .int x0), (1, .int x1), (2, .int x2)], [], Mm sz sl K L κ ρ) := by
  refine p_ild (cc3 c60_0) rfl ?_
  refine p_push (cc3 c60_1) ?_
  refine p_icmp (cc3 c60_2) (fun c => ?_) (fun c => ?_)
  · have h := h.1 c
    refine p_push (cc3 c60_9) ?_
    refine p_ild (cc3 c60_10) rfl ?_
    refine p_ild (cc3 c60_11) rfl ?_
    refine p_bin (cc3 c60_12) ?_
    refine p_push (cc3 c60_13) ?_
    refine p_ild (cc3 c60_14) rfl ?_
    refine p_bin (cc3 c60_15) ?_
    obtain ⟨g, h⟩ := h
    refine p_div (cc3 c60_16) g ?_
    obtain ⟨r, κ', ρ', he, h⟩ := h
    exact p_callS (cc3 c60_17) (Nat.le_of_ble_eq_true rfl) rfl rfl (Nat.le_of_ble_eq_true rfl) he (p_lc (ls' := []) c60_20 rfl rfl h)
  · have h := h.2 c
    refine p_push (cc3 c60_5) ?_
    refine p_goto (cc3 c60_6) ?_
    refine p_lc (ls' := []) c60_20 rfl rfl ?_
    exact p_ri (cct c60_20 rfl) trivial h
theorem B60_20 {ev : xV} {Q : Option Value → xM → Prop} {sz sl : Nat} {K L : Nat → Nat} {κ : Nat → Nat → Int32} {ρ : Nat → Nat → Nat} {s0 : Int32} (h : Q (some (.int s0)) (Mm sz sl K L κ ρ)) : wpE (xT 60) ev Q (20, [], [.int s0], Mm sz sl K L κ ρ) := by
  exact p_ri (cct c60_20 rfl) trivial h
theorem B61_0 {ev : xV} {Q : Option Value → xM → Prop} {sz sl : Nat} {K L : Nat → Nat} {κ : Nat → Nat → Int32} {ρ : Nat → Nat → Nat} {x0 x1 : Int32} (h : ((x0 < x1) → Q (some (.int x1)) (Mm sz sl K L κ ρ)) ∧ (¬ (x0 < x1) → Q (some (.int x0)) (Mm sz sl K L κ ρ))) : wpE (xT 61) ev Q (0, [(0, .int x0), (1, .int x1)], [], Mm sz sl K L κ ρ) := by
  refine p_ild (cc3 c61_0) rfl ?_
  refine p_ild (cc3 c61_1) rfl ?_
  refine p_icmp (cc3 c61_2) (fun c => ?_) (fun c => ?_)
  · have h := h.1 c
    refine p_ild (cc3 c61_9) rfl ?_
    refine p_lc (ls' := []) c61_10 rfl rfl ?_
    exact p_ri (cct c61_10 rfl) trivial h
  · have h := h.2 c
    refine p_ild (cc3 c61_5) rfl ?_
    refine p_goto (cc3 c61_6) ?_
    refine p_lc (ls' := []) c61_10 rfl rfl ?_
    exact p_ri (cct c61_10 rfl) trivial h
theorem B62_0 {ev : xV} {Q : Option Value → xM → Prop} {sz sl : Nat} {K L : Nat → Nat} {κ : Nat → Nat → Int32} {ρ : Nat → Nat → Nat} {x1 x2 x3 x4 x5 x6 : Int32} {a0 : Nat} (h : (K a0 = 3) ∧ (∃ r κ' ρ', ev 60 [.int x2, .int x3, .int x4] (Mm sz sl K L (U (U (U (U (U (U (U (U κ a0 12 (-1)) a0 13 (-1)) a0 0 x1) a0 1 x2) a0 2 x3) a0 4 x4) a0 3 x5) a0 5 x6) ρ) (some (.int r)) (Mm sz sl K L κ' ρ') ∧ wpE (xT 62) ev Q (55, [(0, .ref a0), (1, .int x1), (2, .int x2), (3, .int x3), (4, .int x4), (5, .int x5), (6, .int x6)], [.int r, .ref a0], Mm sz sl K L κ' ρ'))) : wpE (xT 62) ev Q (0, [(0, .ref a0), (1, .int x1), (2, .int x2), (3, .int x3), (4, .int x4), (5, .int x5), (6, .int x6)], [], Mm sz sl K L κ ρ) := by
  refine p_ald (cc3 c62_0) rfl ?_
  refine p_obj (cc3 c62_1) (Nat.le_of_ble_eq_true rfl) ?_
  refine p_ald (cc3 c62_4) rfl ?_
  refine p_push (cc3 c62_5) ?_
  obtain ⟨g1, h⟩ := h
  refine p_puti (cc3 c62_6) g1 mm_xpi ?_
  refine p_ald (cc3 c62_9) rfl ?_
  refine p_push (cc3 c62_10) ?_
  refine p_puti (cc3 c62_11) g1 mm_xpi ?_
  refine p_ald (cc3 c62_14) rfl ?_
  refine p_ild (cc3 c62_15) rfl ?_
  refine p_puti (cc3 c62_16) g1 mm_xpi ?_
  refine p_ald (cc3 c62_19) rfl ?_
  refine p_ild (cc3 c62_20) rfl ?_
  refine p_puti (cc3 c62_21) g1 mm_xpi ?_
  refine p_ald (cc3 c62_24) rfl ?_
  refine p_ild (cc3 c62_25) rfl ?_
  refine p_puti (cc3 c62_26) g1 mm_xpi ?_
  refine p_ald (cc3 c62_29) rfl ?_
  refine p_ild (cc3 c62_30) rfl ?_
  refine p_puti (cc3 c62_32) g1 mm_xpi ?_
  refine p_ald (cc3 c62_35) rfl ?_
  refine p_ild (cc3 c62_36) rfl ?_
  refine p_puti (cc3 c62_38) g1 mm_xpi ?_
  refine p_ald (cc3 c62_41) rfl ?_
  refine p_ild (cc3 c62_42) rfl ?_
  refine p_puti (cc3 c62_44) g1 mm_xpi ?_
  refine p_ald (cc3 c62_47) rfl ?_
  refine p_ild (cc3 c62_48) rfl ?_
  refine p_ild (cc3 c62_49) rfl ?_
  refine p_ild (cc3 c62_50) rfl ?_
  obtain ⟨r, κ', ρ', he, h⟩ := h
  exact p_callS (cc3 c62_52) (Nat.le_of_ble_eq_true rfl) rfl rfl (Nat.le_of_ble_eq_true rfl) he h
theorem B62_55 {ev : xV} {Q : Option Value → xM → Prop} {sz sl : Nat} {K L : Nat → Nat} {κ : Nat → Nat → Int32} {ρ : Nat → Nat → Nat} {x1 x2 x3 x4 x5 x6 s0 : Int32} {a0 b1 : Nat} (h : (K b1 = 3) ∧ (K a0 = 3) ∧ (∃ r κ' ρ', ev 59 [.int x2, .int x3, .int x5] (Mm sz sl K L (U (U κ b1 6 s0) a0 7 ((x3 * x2) - (x4 * ((U κ b1 6 s0) a0 6)))) ρ) (some (.int r)) (Mm sz sl K L κ' ρ') ∧ wpE (xT 62) ev Q (81, [(0, .ref a0), (1, .int x1), (2, .int x2), (3, .int x3), (4, .int x4), (5, .int x5), (6, .int x6)], [.int r, .ref a0], Mm sz sl K L κ' ρ'))) : wpE (xT 62) ev Q (55, [(0, .ref a0), (1, .int x1), (2, .int x2), (3, .int x3), (4, .int x4), (5, .int x5), (6, .int x6)], [.int s0, .ref b1], Mm sz sl K L κ ρ) := by
  obtain ⟨g1, h⟩ := h
  refine p_puti (cc3 c62_55) g1 mm_xpi ?_
  refine p_ald (cc3 c62_58) rfl ?_
  refine p_ild (cc3 c62_59) rfl ?_
  refine p_ild (cc3 c62_60) rfl ?_
  refine p_bin (cc3 c62_61) ?_
  refine p_ild (cc3 c62_62) rfl ?_
  refine p_ald (cc3 c62_64) rfl ?_
  obtain ⟨g2, h⟩ := h
  refine p_geti (cc3 c62_65) g2 rfl ?_
  refine p_bin (cc3 c62_68) ?_
  refine p_bin (cc3 c62_69) ?_
  refine p_puti (cc3 c62_70) g2 mm_xpi ?_
  refine p_ald (cc3 c62_73) rfl ?_
  refine p_ild (cc3 c62_74) rfl ?_
  refine p_ild (cc3 c62_75) rfl ?_
  refine p_ild (cc3 c62_76) rfl ?_
  obtain ⟨r, κ', ρ', he, h⟩ := h
  exact p_callS (cc3 c62_78) (Nat.le_of_ble_eq_true rfl) rfl rfl (Nat.le_of_ble_eq_true rfl) he h
theorem B62_81 {ev : xV} {Q : Option Value → xM → Prop} {sz sl : Nat} {K L : Nat → Nat} {κ : Nat → Nat → Int32} {ρ : Nat → Nat → Nat} {x1 x2 x3 x4 x5 x6 s0 : Int32} {a0 b1 : Nat} (h : (K b1 = 3) ∧ (∃ r κ' ρ', ev 63 [.int x1, .int 1] (Mm sz sl K L (U κ b1 8 s0) ρ) (some (.int r)) (Mm sz sl K L κ' ρ') ∧ wpE (xT 62) ev Q (90, [(0, .ref a0), (1, .int x1), (2, .int x2), (3, .int x3), (4, .int x4), (5, .int x5), (6, .int x6)], [.int r, .ref a0], Mm sz sl K L κ' ρ'))) : wpE (xT 62) ev Q (81, [(0, .ref a0), (1, .int x1), (2, .int x2), (3, .int x3), (4, .int x4), (5, .int x5), (6, .int x6)], [.int s0, .ref b1], Mm sz sl K L κ ρ) := by
  obtain ⟨g1, h⟩ := h
  refine p_puti (cc3 c62_81) g1 mm_xpi ?_
  refine p_ald (cc3 c62_84) rfl ?_
  refine p_ild (cc3 c62_85) rfl ?_
  refine p_push (cc3 c62_86) ?_
  obtain ⟨r, κ', ρ', he, h⟩ := h
  exact p_callS (cc3 c62_87) (Nat.le_of_ble_eq_true rfl) rfl rfl (Nat.le_of_ble_eq_true rfl) he h
theorem B62_90 {ev : xV} {Q : Option Value → xM → Prop} {sz sl : Nat} {K L : Nat → Nat} {κ : Nat → Nat → Int32} {ρ : Nat → Nat → Nat} {x1 x2 x3 x4 x5 x6 s0 : Int32} {a0 b1 : Nat} (h : (K b1 = 3) ∧ (s0 = 0 ∨ s0 = 1) ∧ (∃ sz' sl' K' L' κ' ρ', ev 64 [.ref sz, .int x4] (Mm (sz + 1) (sl + 7) (va_up K sz 5) (va_up L sz 7) (Z0 (U κ b1 9 s0) sz) (ZR ρ sz)) none (Mm sz' sl' K' L' κ' ρ') ∧ wpE (xT 62) ev Q (103, [(0, .ref a0), (1, .int x1), (2, .int x2), (3, .int x3), (4, .int x4), (5, .int x5), (6, .int x6)], [.ref sz, .ref a0], Mm sz' sl' K' L' κ' ρ'))) : wpE (xT 62) ev Q (90, [(0, .ref a0), (1, .int x1), (2, .int x2), (3, .int x3), (4, .int x4), (5, .int x5), (6, .int x6)], [.int s0, .ref b1], Mm sz sl K L κ ρ) := by
  obtain ⟨g1, h⟩ := h
  obtain ⟨g2, h⟩ := h
  refine p_putb (cc3 c62_90) g1 g2 mm_xpi ?_
  refine p_ald (cc3 c62_93) rfl ?_
  refine p_new (cc3 c62_94) mm_new ?_
  refine p_dup (cc3 c62_97) rfl ?_
  refine p_ild (cc3 c62_98) rfl ?_
  obtain ⟨sz', sl', K', L', κ', ρ', he, h⟩ := h
  exact p_callI (cc3 c62_100) (Nat.le_of_ble_eq_true rfl) rfl rfl (Nat.le_of_ble_eq_true rfl) he h
theorem B62_103 {ev : xV} {Q : Option Value → xM → Prop} {sz sl : Nat} {K L : Nat → Nat} {κ : Nat → Nat → Int32} {ρ : Nat → Nat → Nat} {x1 x2 x3 x4 x5 x6 : Int32} {a0 b0 b1 : Nat} (h : (K b1 = 3) ∧ (¬ b0 = 0) ∧ Q none (Mm sz sl K L κ (UR ρ b1 10 b0))) : wpE (xT 62) ev Q (103, [(0, .ref a0), (1, .int x1), (2, .int x2), (3, .int x3), (4, .int x4), (5, .int x5), (6, .int x6)], [.ref b0, .ref b1], Mm sz sl K L κ ρ) := by
  obtain ⟨g1, h⟩ := h
  obtain ⟨g2, h⟩ := h
  refine p_putp (cc3 c62_103) g1 g2 mm_xpp ?_
  exact p_rv (cc3 c62_106) h
theorem B63_0 {ev : xV} {Q : Option Value → xM → Prop} {sz sl : Nat} {K L : Nat → Nat} {κ : Nat → Nat → Int32} {ρ : Nat → Nat → Nat} {x0 x1 : Int32} (h : wpE (xT 63) ev Q (4, [(1, .int x1), (2, .int x0), (3, .int 0)], [], Mm sz sl K L κ ρ)) : wpE (xT 63) ev Q (0, [(0, .int x0), (1, .int x1)], [], Mm sz sl K L κ ρ) := by
  refine p_ild (cc3 c63_0) rfl ?_
  refine p_ist (ls' := [(2, .int x0), (0, .int x0), (1, .int x1)]) (cc3 c63_1) (by decide) rfl ?_
  refine p_push (cc3 c63_2) ?_
  refine p_ist (ls' := [(3, .int 0), (2, .int x0), (0, .int x0), (1, .int x1)]) (cc3 c63_3) (by decide) rfl ?_
  exact p_lc (ls' := [(1, .int x1), (2, .int x0), (3, .int 0)]) c63_4 rfl rfl h
theorem B63_4 {ev : xV} {Q : Option Value → xM → Prop} {sz sl : Nat} {K L : Nat → Nat} {κ : Nat → Nat → Int32} {ρ : Nat → Nat → Nat} {x1 x2 x3 : Int32} (h : ((6 ≤ x3) → Q (some (.int 0)) (Mm sz sl K L κ ρ)) ∧ (¬ (6 ≤ x3) → ((x2 < 0) → Q (some (.int 0)) (Mm sz sl K L κ ρ)) ∧ (¬ (x2 < 0) → ((6 ≤ x2) → Q (some (.int 0)) (Mm sz sl K L κ ρ)) ∧ (¬ (6 ≤ x2) → ((x2 = x1) → Q (some (.int 1)) (Mm sz sl K L κ ρ)) ∧ (¬ (x2 = x1) → ∃ z20, (ρ 0 20 = z20 + 1) ∧ (K z20 = 40) ∧ (vp_in x2 (L z20)) ∧ wpE (xT 63) ev Q (4, [(1, .int x1), (2, .int (κ z20 x2.toNatClampNeg)), (3, .int (x3 + 1))], [], Mm sz sl K L κ ρ)))))) : wpE (xT 63) ev Q (4, [(1, .int x1), (2, .int x2), (3, .int x3)], [], Mm sz sl K L κ ρ) := by
  refine p_ild (cct c63_4 rfl) rfl ?_
  refine p_push (cc3 c63_5) ?_
  refine p_icmp (cc3 c63_7) (fun c => ?_) (fun c => ?_)
  · have h := h.1 c
    refine p_lc (ls' := []) c63_39 rfl rfl ?_
    refine p_push (cct c63_39 rfl) ?_
    exact p_ri (cc3 c63_40) (by decide) h
  · have h := h.2 c
    refine p_ild (cc3 c63_10) rfl ?_
    refine p_if (cc3 c63_11) (fun c => ?_) (fun c => ?_)
    · have h := h.1 c
      refine p_lc (ls' := []) c63_39 rfl rfl ?_
      refine p_push (cct c63_39 rfl) ?_
      exact p_ri (cc3 c63_40) (by decide) h
    · have h := h.2 c
      refine p_ild (cc3 c63_14) rfl ?_
      refine p_push (cc3 c63_15) ?_
      refine p_icmp (cc3 c63_17) (fun c => ?_) (fun c => ?_)
      · have h := h.1 c
        refine p_lc (ls' := []) c63_39 rfl rfl ?_
        refine p_push (cct c63_39 rfl) ?_
        exact p_ri (cc3 c63_40) (by decide) h
      · have h := h.2 c
        refine p_ild (cc3 c63_20) rfl ?_
        refine p_ild (cc3 c63_21) rfl ?_
        refine p_icmp (cc3 c63_22) (fun c => ?_) (fun c => ?_)
        · have h := h.1 c
          refine p_push (cc3 c63_25) ?_
          exact p_ri (cc3 c63_26) (by decide) h
        · have h := h.2 c
          obtain ⟨z20, g, h⟩ := h
          refine p_gref (cc3 c63_27) g ?_
          refine p_ild (cc3 c63_30) rfl ?_
          obtain ⟨g1, h⟩ := h
          obtain ⟨g2, h⟩ := h
          refine p_aldi (cc3 c63_31) g1 g2 rfl ?_
          refine p_ist (ls' := [(2, .int (κ z20 x2.toNatClampNeg)), (1, .int x1), (3, .int x3)]) (cc3 c63_32) (by decide) rfl ?_
          refine p_iinc (y := x3 + 1) (ls' := [(3, .int (x3 + 1)), (2, .int (κ z20 x2.toNatClampNeg)), (1, .int x1)]) (cc3 c63_33) (by decide) rfl rfl rfl ?_
          refine p_goto (cc3 c63_36) ?_
          exact p_lc (ls' := [(1, .int x1), (2, .int (κ z20 x2.toNatClampNeg)), (3, .int (x3 + 1))]) c63_4 rfl rfl h
theorem B64_0 {ev : xV} {Q : Option Value → xM → Prop} {sz sl : Nat} {K L : Nat → Nat} {κ : Nat → Nat → Int32} {ρ : Nat → Nat → Nat} {x1 : Int32} {a0 : Nat} (h : (¬ x1 < 0) ∧ (x1.toNatClampNeg ≤ 100000) ∧ ((va_up K sz 20) a0 = 5) ∧ (¬ sz = 0) ∧ ((va_up (va_up K sz 20) (sz + 1) 20) a0 = 5) ∧ (¬ (sz + 1) = 0) ∧ Q none (Mm ((sz + 1) + 1) ((sl + x1.toNatClampNeg) + x1.toNatClampNeg) (va_up (va_up K sz 20) (sz + 1) 20) (va_up (va_up L sz x1.toNatClampNeg) (sz + 1) x1.toNatClampNeg) (Z0 (Z0 κ sz) (sz + 1)) (UR (ZR (UR (ZR ρ sz) a0 0 sz) (sz + 1)) a0 1 (sz + 1)))) : wpE (xT 64) ev Q (0, [(0, .ref a0), (1, .int x1)], [], Mm sz sl K L κ ρ) := by
  refine p_ald (cc3 c64_0) rfl ?_
  refine p_obj (cc3 c64_1) (Nat.le_of_ble_eq_true rfl) ?_
  refine p_ald (cc3 c64_4) rfl ?_
  refine p_ild (cc3 c64_5) rfl ?_
  obtain ⟨g1, h⟩ := h
  obtain ⟨g2, h⟩ := h
  refine p_newa (cc3 c64_6) g1 rfl g2 mm_new ?_
  obtain ⟨g3, h⟩ := h
  obtain ⟨g4, h⟩ := h
  refine p_putp (cc3 c64_8) g3 g4 mm_xpp ?_
  refine p_ald (cc3 c64_11) rfl ?_
  refine p_ild (cc3 c64_12) rfl ?_
  refine p_newa (cc3 c64_13) g1 rfl g2 mm_new ?_
  obtain ⟨g5, h⟩ := h
  obtain ⟨g6, h⟩ := h
  refine p_putp (cc3 c64_15) g5 g6 mm_xpp ?_
  exact p_rv (cc3 c64_18) h
theorem B65_0 {ev : xV} {Q : Option Value → xM → Prop} {sz sl : Nat} {K L : Nat → Nat} {κ : Nat → Nat → Int32} {ρ : Nat → Nat → Nat} {x1 x2 : Int32} {a0 : Nat} (h : ((K a0 = 12) ∧ ∃ v : Value, ∃ κ' ρ', ev 66 [.ref a0, .int x1] (Mm sz sl K L κ ρ) (some (v)) (Mm sz sl K L κ' ρ') ∧ wpE (xT 65) ev Q (5, [(0, .ref a0), (1, .int x1), (2, .int x2)], [v], Mm sz sl K L κ' ρ'))) : wpE (xT 65) ev Q (0, [(0, .ref a0), (1, .int x1), (2, .int x2)], [], Mm sz sl K L κ ρ) := by
  refine p_ald (cc3 c65_0) rfl ?_
  refine p_ild (cc3 c65_1) rfl ?_
  obtain ⟨g1, h⟩ := h
  obtain ⟨v, κ', ρ', he, h⟩ := h
  exact p_callV (cc3 c65_2) (Nat.le_of_ble_eq_true rfl) rfl rfl (Nat.le_of_ble_eq_true rfl) g1 he h
theorem B65_5 {ev : xV} {Q : Option Value → xM → Prop} {sz sl : Nat} {K L : Nat → Nat} {κ : Nat → Nat → Int32} {ρ : Nat → Nat → Nat} {x1 x2 : Int32} {a0 b0 : Nat} (h : ((x2 = 0) → (K b0 = 3) ∧ Q (some (.int (κ b0 0))) (Mm sz sl K L κ ρ)) ∧ (¬ (x2 = 0) → ((x2 = 1) → (K b0 = 3) ∧ Q (some (.int (κ b0 6))) (Mm sz sl K L κ ρ)) ∧ (¬ (x2 = 1) → ((x2 = 2) → (K b0 = 3) ∧ Q (some (.int (κ b0 7))) (Mm sz sl K L κ ρ)) ∧ (¬ (x2 = 2) → ((x2 = 3) → (K b0 = 3) ∧ Q (some (.int (κ b0 8))) (Mm sz sl K L κ ρ)) ∧ (¬ (x2 = 3) → ((x2 = 4) → (K b0 = 3) ∧ Q (some (.int (κ b0 4))) (Mm sz sl K L κ ρ)) ∧ (¬ (x2 = 4) → ((x2 = 5) → (K b0 = 3) ∧ Q (some (.int (κ b0 12))) (Mm sz sl K L κ ρ)) ∧ (¬ (x2 = 5) → ((x2 = 6) → (K b0 = 3) ∧ Q (some (.int (κ b0 13))) (Mm sz sl K L κ ρ)) ∧ (¬ (x2 = 6) → ((x2 = 7) → (K b0 = 3) ∧ (((κ b0 14) = 0) → Q (some (.int 0)) (Mm sz sl K L κ ρ)) ∧ (¬ ((κ b0 14) = 0) → Q (some (.int 1)) (Mm sz sl K L κ ρ))) ∧ (¬ (x2 = 7) → ((x2 = 8) → (K b0 = 3) ∧ Q (some (.int (κ b0 1))) (Mm sz sl K L κ ρ)) ∧ (¬ (x2 = 8) → ((x2 = 9) → (K b0 = 3) ∧ Q (some (.int (κ b0 2))) (Mm sz sl K L κ ρ)) ∧ (¬ (x2 = 9) → ((x2 = 10) → (K b0 = 3) ∧ Q (some (.int (κ b0 3))) (Mm sz sl K L κ ρ)) ∧ (¬ (x2 = 10) → Q (some (.int ((-2)))) (Mm sz sl K L κ ρ))))))))))))) : wpE (xT 65) ev Q (5, [(0, .ref a0), (1, .int x1), (2, .int x2)], [.ref b0], Mm sz sl K L κ ρ) := by
  refine p_ast (ls' := [(3, .ref b0), (0, .ref a0), (1, .int x1), (2, .int x2)]) (cc3 c65_5) (by decide) rfl ?_
  refine p_ald (cc3 c65_6) rfl ?_
  refine p_ifnR (cc3 c65_7) ?_
  refine p_ild (cc3 c65_13) rfl ?_
  refine p_sw (cc3 c65_14) ?_
  refine ⟨fun c => ?_, fun c => ?_⟩
  · have h := h.1 c
    refine p_ald (cc3 c65_72) rfl ?_
    obtain ⟨g1, h⟩ := h
    refine p_geti (cc3 c65_73) g1 rfl ?_
    exact p_ri (cc3 c65_76) trivial h
  · have h := h.2 c
    refine ⟨fun c => ?_, fun c => ?_⟩
    · have h := h.1 c
      refine p_ald (cc3 c65_77) rfl ?_
      obtain ⟨g1, h⟩ := h
      refine p_geti (cc3 c65_78) g1 rfl ?_
      exact p_ri (cc3 c65_81) trivial h
    · have h := h.2 c
      refine ⟨fun c => ?_, fun c => ?_⟩
      · have h := h.1 c
        refine p_ald (cc3 c65_82) rfl ?_
        obtain ⟨g1, h⟩ := h
        refine p_geti (cc3 c65_83) g1 rfl ?_
        exact p_ri (cc3 c65_86) trivial h
      · have h := h.2 c
        refine ⟨fun c => ?_, fun c => ?_⟩
        · have h := h.1 c
          refine p_ald (cc3 c65_87) rfl ?_
          obtain ⟨g1, h⟩ := h
          refine p_geti (cc3 c65_88) g1 rfl ?_
          exact p_ri (cc3 c65_91) trivial h
        · have h := h.2 c
          refine ⟨fun c => ?_, fun c => ?_⟩
          · have h := h.1 c
            refine p_ald (cc3 c65_92) rfl ?_
            obtain ⟨g1, h⟩ := h
            refine p_geti (cc3 c65_93) g1 rfl ?_
            exact p_ri (cc3 c65_96) trivial h
          · have h := h.2 c
            refine ⟨fun c => ?_, fun c => ?_⟩
            · have h := h.1 c
              refine p_ald (cc3 c65_97) rfl ?_
              obtain ⟨g1, h⟩ := h
              refine p_geti (cc3 c65_98) g1 rfl ?_
              exact p_ri (cc3 c65_101) trivial h
            · have h := h.2 c
              refine ⟨fun c => ?_, fun c => ?_⟩
              · have h := h.1 c
                refine p_ald (cc3 c65_102) rfl ?_
                obtain ⟨g1, h⟩ := h
                refine p_geti (cc3 c65_103) g1 rfl ?_
                exact p_ri (cc3 c65_106) trivial h
              · have h := h.2 c
                refine ⟨fun c => ?_, fun c => ?_⟩
                · have h := h.1 c
                  refine p_ald (cc3 c65_107) rfl ?_
                  obtain ⟨g1, h⟩ := h
                  refine p_geti (cc3 c65_108) g1 rfl ?_
                  refine p_if (cc3 c65_111) (fun c => ?_) (fun c => ?_)
                  · have h := h.1 c
                    refine p_push (cc3 c65_118) ?_
                    refine p_lc (ls' := []) c65_119 rfl rfl ?_
                    exact p_ri (cct c65_119 rfl) trivial h
                  · have h := h.2 c
                    refine p_push (cc3 c65_114) ?_
                    refine p_goto (cc3 c65_115) ?_
                    refine p_lc (ls' := []) c65_119 rfl rfl ?_
                    exact p_ri (cct c65_119 rfl) trivial h
                · have h := h.2 c
                  refine ⟨fun c => ?_, fun c => ?_⟩
                  · have h := h.1 c
                    refine p_ald (cc3 c65_120) rfl ?_
                    obtain ⟨g1, h⟩ := h
                    refine p_geti (cc3 c65_121) g1 rfl ?_
                    exact p_ri (cc3 c65_124) trivial h
                  · have h := h.2 c
                    refine ⟨fun c => ?_, fun c => ?_⟩
                    · have h := h.1 c
                      refine p_ald (cc3 c65_125) rfl ?_
                      obtain ⟨g1, h⟩ := h
                      refine p_geti (cc3 c65_126) g1 rfl ?_
                      exact p_ri (cc3 c65_129) trivial h
                    · have h := h.2 c
                      refine ⟨fun c => ?_, fun c => ?_⟩
                      · have h := h.1 c
                        refine p_ald (cc3 c65_130) rfl ?_
                        obtain ⟨g1, h⟩ := h
                        refine p_geti (cc3 c65_131) g1 rfl ?_
                        exact p_ri (cc3 c65_134) trivial h
                      · have h := h.2 c
                        refine p_push (cc3 c65_135) ?_
                        exact p_ri (cc3 c65_137) trivial h
theorem B65_5n {ev : xV} {Q : Option Value → xM → Prop} {sz sl : Nat} {K L : Nat → Nat} {κ : Nat → Nat → Int32} {ρ : Nat → Nat → Nat} {x1 x2 : Int32} {a0 : Nat} (h : Q (some (.int ((-2)))) (Mm sz sl K L κ ρ)) : wpE (xT 65) ev Q (5, [(0, .ref a0), (1, .int x1), (2, .int x2)], [.null], Mm sz sl K L κ ρ) := by
  refine p_astN (ls' := [(3, .null), (0, .ref a0), (1, .int x1), (2, .int x2)]) (cc3 c65_5) (by decide) rfl ?_
  refine p_aldN (cc3 c65_6) rfl ?_
  refine p_ifnN (cc3 c65_7) ?_
  refine p_push (cc3 c65_10) ?_
  exact p_ri (cc3 c65_12) trivial h
theorem B66_0 {ev : xV} {Q : Option Value → xM → Prop} {sz sl : Nat} {K L : Nat → Nat} {κ : Nat → Nat → Int32} {ρ : Nat → Nat → Nat} {x1 : Int32} {a0 : Nat} (h : ((x1 < 0) → Q (some (.null)) (Mm sz sl K L κ ρ)) ∧ (¬ (x1 < 0) → (K a0 = 12) ∧ ((x1 < (κ a0 12)) → (¬ ρ a0 7 = 0) ∧ (K (ρ a0 7) = 25) ∧ (vp_in x1 (L (ρ a0 7))) ∧ (¬ ρ (ρ a0 7) x1.toNatClampNeg = 0) ∧ Q (some (.ref (ρ (ρ a0 7) x1.toNatClampNeg))) (Mm sz sl K L κ ρ)) ∧ (¬ (x1 < (κ a0 12)) → Q (some (.null)) (Mm sz sl K L κ ρ)))) : wpE (xT 66) ev Q (0, [(0, .ref a0), (1, .int x1)], [], Mm sz sl K L κ ρ) := by
  refine p_ild (cc3 c66_0) rfl ?_
  refine p_if (cc3 c66_1) (fun c => ?_) (fun c => ?_)
  · have h := h.1 c
    refine p_lc (ls' := []) c66_12 rfl rfl ?_
    refine p_push (cct c66_12 rfl) ?_
    refine p_goto (cc3 c66_13) ?_
    exact p_raN (cct c66_22 rfl) h
  · have h := h.2 c
    refine p_ild (cc3 c66_4) rfl ?_
    refine p_ald (cc3 c66_5) rfl ?_
    obtain ⟨g1, h⟩ := h
    refine p_geti (cc3 c66_6) g1 rfl ?_
    refine p_icmp (cc3 c66_9) (fun c => ?_) (fun c => ?_)
    · have h := h.1 c
      refine p_ald (cc3 c66_16) rfl ?_
      obtain ⟨g2, h⟩ := h
      refine p_getp (cc3 c66_17) g1 rfl g2 ?_
      refine p_ild (cc3 c66_20) rfl ?_
      obtain ⟨g3, h⟩ := h
      obtain ⟨g4, h⟩ := h
      obtain ⟨g5, h⟩ := h
      refine p_aldp (cc3 c66_21) g3 g4 rfl g5 ?_
      refine p_lc (ls' := []) c66_22 rfl rfl ?_
      exact p_ra (cct c66_22 rfl) h
    · have h := h.2 c
      refine p_lc (ls' := []) c66_12 rfl rfl ?_
      refine p_push (cct c66_12 rfl) ?_
      refine p_goto (cc3 c66_13) ?_
      exact p_raN (cct c66_22 rfl) h
theorem B67_0 {ev : xV} {Q : Option Value → xM → Prop} {sz sl : Nat} {K L : Nat → Nat} {κ : Nat → Nat → Int32} {ρ : Nat → Nat → Nat} {x1 x2 : Int32} {a0 : Nat} (h : ((K a0 = 12) ∧ ∃ v : Value, ∃ κ' ρ', ev 66 [.ref a0, .int x1] (Mm sz sl K L κ ρ) (some (v)) (Mm sz sl K L κ' ρ') ∧ wpE (xT 67) ev Q (5, [(0, .ref a0), (1, .int x1), (2, .int x2)], [v], Mm sz sl K L κ' ρ'))) : wpE (xT 67) ev Q (0, [(0, .ref a0), (1, .int x1), (2, .int x2)], [], Mm sz sl K L κ ρ) := by
  refine p_ald (cc3 c67_0) rfl ?_
  refine p_ild (cc3 c67_1) rfl ?_
  obtain ⟨g1, h⟩ := h
  obtain ⟨v, κ', ρ', he, h⟩ := h
  exact p_callV (cc3 c67_2) (Nat.le_of_ble_eq_true rfl) rfl rfl (Nat.le_of_ble_eq_true rfl) g1 he h
theorem B67_5 {ev : xV} {Q : Option Value → xM → Prop} {sz sl : Nat} {K L : Nat → Nat} {κ : Nat → Nat → Int32} {ρ : Nat → Nat → Nat} {x1 x2 : Int32} {a0 b0 : Nat} (h : ((K a0 = 12) ∧ ∃ v : Value, ∃ κ' ρ', ev 54 [.ref a0, .int x2] (Mm sz sl K L κ ρ) (some (v)) (Mm sz sl K L κ' ρ') ∧ wpE (xT 67) ev Q (11, [(3, .ref b0), (0, .ref a0), (1, .int x1), (2, .int x2)], [v], Mm sz sl K L κ' ρ'))) : wpE (xT 67) ev Q (5, [(0, .ref a0), (1, .int x1), (2, .int x2)], [.ref b0], Mm sz sl K L κ ρ) := by
  refine p_ast (ls' := [(3, .ref b0), (0, .ref a0), (1, .int x1), (2, .int x2)]) (cc3 c67_5) (by decide) rfl ?_
  refine p_ald (cc3 c67_6) rfl ?_
  refine p_ild (cc3 c67_7) rfl ?_
  obtain ⟨g1, h⟩ := h
  obtain ⟨v, κ', ρ', he, h⟩ := h
  exact p_callV (cc3 c67_8) (Nat.le_of_ble_eq_true rfl) rfl rfl (Nat.le_of_ble_eq_true rfl) g1 he h
theorem B67_5n {ev : xV} {Q : Option Value → xM → Prop} {sz sl : Nat} {K L : Nat → Nat} {κ : Nat → Nat → Int32} {ρ : Nat → Nat → Nat} {x1 x2 : Int32} {a0 : Nat} (h : ((K a0 = 12) ∧ ∃ v : Value, ∃ κ' ρ', ev 54 [.ref a0, .int x2] (Mm sz sl K L κ ρ) (some (v)) (Mm sz sl K L κ' ρ') ∧ wpE (xT 67) ev Q (11, [(3, .null), (0, .ref a0), (1, .int x1), (2, .int x2)], [v], Mm sz sl K L κ' ρ'))) : wpE (xT 67) ev Q (5, [(0, .ref a0), (1, .int x1), (2, .int x2)], [.null], Mm sz sl K L κ ρ) := by
  refine p_astN (ls' := [(3, .null), (0, .ref a0), (1, .int x1), (2, .int x2)]) (cc3 c67_5) (by decide) rfl ?_
  refine p_ald (cc3 c67_6) rfl ?_
  refine p_ild (cc3 c67_7) rfl ?_
  obtain ⟨g1, h⟩ := h
  obtain ⟨v, κ', ρ', he, h⟩ := h
  exact p_callV (cc3 c67_8) (Nat.le_of_ble_eq_true rfl) rfl rfl (Nat.le_of_ble_eq_true rfl) g1 he h
theorem B67_11 {ev : xV} {Q : Option Value → xM → Prop} {sz sl : Nat} {K L : Nat → Nat} {κ : Nat → Nat → Int32} {ρ : Nat → Nat → Nat} {x1 x2 : Int32} {a3 a0 b0 : Nat} (h : (K b0 = 1) ∧ (¬ ρ b0 0 = 0) ∧ ((K a3 = 3) ∧ ∃ r κ' ρ', ev 68 [.ref a3, .ref (ρ b0 0)] (Mm sz sl K L κ ρ) (some (.int r)) (Mm sz sl K L κ' ρ') ∧ wpE (xT 67) ev Q (31, [(4, .ref b0), (3, .ref a3), (0, .ref a0), (1, .int x1), (2, .int x2)], [.int r], Mm sz sl K L κ' ρ'))) : wpE (xT 67) ev Q (11, [(3, .ref a3), (0, .ref a0), (1, .int x1), (2, .int x2)], [.ref b0], Mm sz sl K L κ ρ) := by
  refine p_ast (ls' := [(4, .ref b0), (3, .ref a3), (0, .ref a0), (1, .int x1), (2, .int x2)]) (cc3 c67_11) (by decide) rfl ?_
  refine p_ald (cc3 c67_13) rfl ?_
  refine p_ifnR (cc3 c67_14) ?_
  refine p_ald (cc3 c67_17) rfl ?_
  refine p_ifnR (cc3 c67_19) ?_
  refine p_ald (cc3 c67_22) rfl ?_
  refine p_ald (cc3 c67_23) rfl ?_
  obtain ⟨g1, h⟩ := h
  obtain ⟨g2, h⟩ := h
  refine p_getp (cc3 c67_25) g1 rfl g2 ?_
  obtain ⟨g3, h⟩ := h
  obtain ⟨r, κ', ρ', he, h⟩ := h
  exact p_callV (cc3 c67_28) (Nat.le_of_ble_eq_true rfl) rfl rfl (Nat.le_of_ble_eq_true rfl) g3 he h
theorem B67_11n {ev : xV} {Q : Option Value → xM → Prop} {sz sl : Nat} {K L : Nat → Nat} {κ : Nat → Nat → Int32} {ρ : Nat → Nat → Nat} {x1 x2 : Int32} {a3 a0 : Nat} (h : Q (some (.int ((-2)))) (Mm sz sl K L κ ρ)) : wpE (xT 67) ev Q (11, [(3, .ref a3), (0, .ref a0), (1, .int x1), (2, .int x2)], [.null], Mm sz sl K L κ ρ) := by
  refine p_astN (ls' := [(4, .null), (3, .ref a3), (0, .ref a0), (1, .int x1), (2, .int x2)]) (cc3 c67_11) (by decide) rfl ?_
  refine p_ald (cc3 c67_13) rfl ?_
  refine p_ifnR (cc3 c67_14) ?_
  refine p_aldN (cc3 c67_17) rfl ?_
  refine p_ifnN (cc3 c67_19) ?_
  refine p_lc (ls' := []) c67_34 rfl rfl ?_
  refine p_push (cct c67_34 rfl) ?_
  exact p_ri (cc3 c67_36) trivial h
theorem B67_11nn {ev : xV} {Q : Option Value → xM → Prop} {sz sl : Nat} {K L : Nat → Nat} {κ : Nat → Nat → Int32} {ρ : Nat → Nat → Nat} {x1 x2 : Int32} {a0 : Nat} (h : Q (some (.int ((-2)))) (Mm sz sl K L κ ρ)) : wpE (xT 67) ev Q (11, [(3, .null), (0, .ref a0), (1, .int x1), (2, .int x2)], [.null], Mm sz sl K L κ ρ) := by
  refine p_astN (ls' := [(4, .null), (3, .null), (0, .ref a0), (1, .int x1), (2, .int x2)]) (cc3 c67_11) (by decide) rfl ?_
  refine p_aldN (cc3 c67_13) rfl ?_
  refine p_ifnN (cc3 c67_14) ?_
  refine p_lc (ls' := []) c67_34 rfl rfl ?_
  refine p_push (cct c67_34 rfl) ?_
  exact p_ri (cc3 c67_36) trivial h
theorem B67_31 {ev : xV} {Q : Option Value → xM → Prop} {sz sl : Nat} {K L : Nat → Nat} {κ : Nat → Nat → Int32} {ρ : Nat → Nat → Nat} {x1 x2 s0 : Int32} {a4 a3 a0 : Nat} (h : ((s0 = 0) → Q (some (.int ((-2)))) (Mm sz sl K L κ ρ)) ∧ (¬ (s0 = 0) → (K a0 = 12) ∧ (¬ ρ a0 3 = 0) ∧ ((K (ρ a0 3) = 4) ∧ ∃ r κ' ρ', ev 69 [.ref (ρ a0 3), .ref a3, .ref a4] (Mm sz sl K L κ ρ) (some (.int r)) (Mm sz sl K L κ' ρ') ∧ wpE (xT 67) ev Q (47, [(4, .ref a4), (3, .ref a3), (0, .ref a0), (1, .int x1), (2, .int x2)], [.int r], Mm sz sl K L κ' ρ')))) : wpE (xT 67) ev Q (31, [(4, .ref a4), (3, .ref a3), (0, .ref a0), (1, .int x1), (2, .int x2)], [.int s0], Mm sz sl K L κ ρ) := by
  refine p_if (cc3 c67_31) (fun c => ?_) (fun c => ?_)
  · have h := h.1 c
    refine p_lc (ls' := []) c67_34 rfl rfl ?_
    refine p_push (cct c67_34 rfl) ?_
    exact p_ri (cc3 c67_36) trivial h
  · have h := h.2 c
    refine p_ald (cc3 c67_37) rfl ?_
    obtain ⟨g1, h⟩ := h
    obtain ⟨g2, h⟩ := h
    refine p_getp (cc3 c67_38) g1 rfl g2 ?_
    refine p_ald (cc3 c67_41) rfl ?_
    refine p_ald (cc3 c67_42) rfl ?_
    obtain ⟨g3, h⟩ := h
    obtain ⟨r, κ', ρ', he, h⟩ := h
    exact p_callV (cc3 c67_44) (Nat.le_of_ble_eq_true rfl) rfl rfl (Nat.le_of_ble_eq_true rfl) g3 he h
theorem B67_47 {ev : xV} {Q : Option Value → xM → Prop} {sz sl : Nat} {K L : Nat → Nat} {κ : Nat → Nat → Int32} {ρ : Nat → Nat → Nat} {x1 x2 s0 : Int32} {a4 a3 a0 : Nat} (h : ((s0 = (-1)) → Q (some (.int s0)) (Mm sz sl K L κ ρ)) ∧ (¬ (s0 = (-1)) → (K a0 = 12) ∧ (¬ ρ a0 3 = 0) ∧ (K a3 = 3) ∧ (¬ ρ a3 10 = 0) ∧ ((K (ρ a0 3) = 4) ∧ ∃ κ' ρ', ev 83 [.ref (ρ a0 3), .ref (ρ a3 10)] (Mm sz sl K L κ ρ) none (Mm sz sl K L κ' ρ') ∧ wpE (xT 67) ev Q (66, [(5, .int s0), (4, .ref a4), (3, .ref a3), (0, .ref a0), (1, .int x1), (2, .int x2)], [], Mm sz sl K L κ' ρ')))) : wpE (xT 67) ev Q (47, [(4, .ref a4), (3, .ref a3), (0, .ref a0), (1, .int x1), (2, .int x2)], [.int s0], Mm sz sl K L κ ρ) := by
  refine p_ist (ls' := [(5, .int s0), (4, .ref a4), (3, .ref a3), (0, .ref a0), (1, .int x1), (2, .int x2)]) (cc3 c67_47) (by decide) rfl ?_
  refine p_ild (cc3 c67_49) rfl ?_
  refine p_push (cc3 c67_51) ?_
  refine p_icmp (cc3 c67_52) (fun c => ?_) (fun c => ?_)
  · have h := h.1 c
    refine p_lc (ls' := [(5, .int s0)]) c67_73 rfl rfl ?_
    refine p_ild (cct c67_73 rfl) rfl ?_
    exact p_ri (cc3 c67_75) trivial h
  · have h := h.2 c
    refine p_ald (cc3 c67_55) rfl ?_
    obtain ⟨g1, h⟩ := h
    obtain ⟨g2, h⟩ := h
    refine p_getp (cc3 c67_56) g1 rfl g2 ?_
    refine p_ald (cc3 c67_59) rfl ?_
    obtain ⟨g3, h⟩ := h
    obtain ⟨g4, h⟩ := h
    refine p_getp (cc3 c67_60) g3 rfl g4 ?_
    obtain ⟨g5, h⟩ := h
    obtain ⟨κ', ρ', he, h⟩ := h
    exact p_callV (cc3 c67_63) (Nat.le_of_ble_eq_true rfl) rfl rfl (Nat.le_of_ble_eq_true rfl) g5 he h
theorem B67_66 {ev : xV} {Q : Option Value → xM → Prop} {sz sl : Nat} {K L : Nat → Nat} {κ : Nat → Nat → Int32} {ρ : Nat → Nat → Nat} {x5 x1 x2 : Int32} {a4 a3 a0 : Nat} (h : ((K a3 = 3) ∧ ∃ κ' ρ', ev 85 [.ref a3, .ref a4, .int x2] (Mm sz sl K L κ ρ) none (Mm sz sl K L κ' ρ') ∧ wpE (xT 67) ev Q (73, [(5, .int x5)], [], Mm sz sl K L κ' ρ'))) : wpE (xT 67) ev Q (66, [(5, .int x5), (4, .ref a4), (3, .ref a3), (0, .ref a0), (1, .int x1), (2, .int x2)], [], Mm sz sl K L κ ρ) := by
  refine p_ald (cc3 c67_66) rfl ?_
  refine p_ald (cc3 c67_67) rfl ?_
  refine p_ild (cc3 c67_69) rfl ?_
  obtain ⟨g1, h⟩ := h
  obtain ⟨κ', ρ', he, h⟩ := h
  exact p_callV (cc3 c67_70) (Nat.le_of_ble_eq_true rfl) rfl rfl (Nat.le_of_ble_eq_true rfl) g1 he (p_lc (ls' := [(5, .int x5)]) c67_73 rfl rfl h)
theorem B67_73 {ev : xV} {Q : Option Value → xM → Prop} {sz sl : Nat} {K L : Nat → Nat} {κ : Nat → Nat → Int32} {ρ : Nat → Nat → Nat} {x5 : Int32} (h : Q (some (.int x5)) (Mm sz sl K L κ ρ)) : wpE (xT 67) ev Q (73, [(5, .int x5)], [], Mm sz sl K L κ ρ) := by
  refine p_ild (cct c67_73 rfl) rfl ?_
  exact p_ri (cc3 c67_75) trivial h
theorem B68_0 {ev : xV} {Q : Option Value → xM → Prop} {sz sl : Nat} {K L : Nat → Nat} {κ : Nat → Nat → Int32} {ρ : Nat → Nat → Nat} {a0 a1 : Nat} (h : (K a0 = 3) ∧ (((κ a0 9) = 0) → Q (some (.int 1)) (Mm sz sl K L κ ρ)) ∧ (¬ ((κ a0 9) = 0) → ((K a1 = 6) ∧ ∃ r κ' ρ', ev 48 [.ref a1, .int (κ a0 5)] (Mm sz sl K L κ ρ) (some (.int r)) (Mm sz sl K L κ' ρ') ∧ wpE (xT 68) ev Q (15, [(0, .ref a0), (1, .ref a1)], [.int r], Mm sz sl K L κ' ρ')))) : wpE (xT 68) ev Q (0, [(0, .ref a0), (1, .ref a1)], [], Mm sz sl K L κ ρ) := by
  refine p_ald (cc3 c68_0) rfl ?_
  obtain ⟨g1, h⟩ := h
  refine p_geti (cc3 c68_1) g1 rfl ?_
  refine p_if (cc3 c68_4) (fun c => ?_) (fun c => ?_)
  · have h := h.1 c
    refine p_lc (ls' := []) c68_18 rfl rfl ?_
    refine p_push (cct c68_18 rfl) ?_
    refine p_goto (cc3 c68_19) ?_
    exact p_ri (cct c68_23 rfl) (by decide) h
  · have h := h.2 c
    refine p_ald (cc3 c68_7) rfl ?_
    refine p_ald (cc3 c68_8) rfl ?_
    refine p_geti (cc3 c68_9) g1 rfl ?_
    obtain ⟨g2, h⟩ := h
    obtain ⟨r, κ', ρ', he, h⟩ := h
    exact p_callV (cc3 c68_12) (Nat.le_of_ble_eq_true rfl) rfl rfl (Nat.le_of_ble_eq_true rfl) g2 he h
theorem B68_15 {ev : xV} {Q : Option Value → xM → Prop} {sz sl : Nat} {K L : Nat → Nat} {κ : Nat → Nat → Int32} {ρ : Nat → Nat → Nat} {s0 : Int32} {a0 a1 : Nat} (h : ((s0 = 0) → Q (some (.int 0)) (Mm sz sl K L κ ρ)) ∧ (¬ (s0 = 0) → Q (some (.int 1)) (Mm sz sl K L κ ρ))) : wpE (xT 68) ev Q (15, [(0, .ref a0), (1, .ref a1)], [.int s0], Mm sz sl K L κ ρ) := by
  refine p_if (cc3 c68_15) (fun c => ?_) (fun c => ?_)
  · have h := h.1 c
    refine p_push (cc3 c68_22) ?_
    refine p_lc (ls' := []) c68_23 rfl rfl ?_
    exact p_ri (cct c68_23 rfl) (by decide) h
  · have h := h.2 c
    refine p_lc (ls' := []) c68_18 rfl rfl ?_
    refine p_push (cct c68_18 rfl) ?_
    refine p_goto (cc3 c68_19) ?_
    exact p_ri (cct c68_23 rfl) (by decide) h
theorem B69_0 {ev : xV} {Q : Option Value → xM → Prop} {sz sl : Nat} {K L : Nat → Nat} {κ : Nat → Nat → Int32} {ρ : Nat → Nat → Nat} {a0 a1 a2 : Nat} (h : (K a0 = 4) ∧ (¬ a1 = 0) ∧ (¬ a2 = 0) ∧ (K a2 = 1) ∧ (¬ (UR (UR ρ a0 5 a1) a0 6 a2) a2 0 = 0) ∧ (¬ ((UR (UR ρ a0 5 a1) a0 6 a2) a2 0) = 0) ∧ (∃ κ' ρ', ev 70 [.ref a0] (Mm sz sl K L κ (UR (UR (UR ρ a0 5 a1) a0 6 a2) a0 7 ((UR (UR ρ a0 5 a1) a0 6 a2) a2 0))) none (Mm sz sl K L κ' ρ') ∧ wpE (xT 69) ev Q (22, [(0, .ref a0), (1, .ref a1), (2, .ref a2)], [], Mm sz sl K L κ' ρ'))) : wpE (xT 69) ev Q (0, [(0, .ref a0), (1, .ref a1), (2, .ref a2)], [], Mm sz sl K L κ ρ) := by
  refine p_ald (cc3 c69_0) rfl ?_
  refine p_ald (cc3 c69_1) rfl ?_
  obtain ⟨g1, h⟩ := h
  obtain ⟨g2, h⟩ := h
  refine p_putp (cc3 c69_2) g1 g2 mm_xpp ?_
  refine p_ald (cc3 c69_5) rfl ?_
  refine p_ald (cc3 c69_6) rfl ?_
  obtain ⟨g3, h⟩ := h
  refine p_putp (cc3 c69_7) g1 g3 mm_xpp ?_
  refine p_ald (cc3 c69_10) rfl ?_
  refine p_ald (cc3 c69_11) rfl ?_
  obtain ⟨g4, h⟩ := h
  obtain ⟨g5, h⟩ := h
  refine p_getp (cc3 c69_12) g4 rfl g5 ?_
  obtain ⟨g6, h⟩ := h
  refine p_putp (cc3 c69_15) g1 g6 mm_xpp ?_
  refine p_ald (cc3 c69_18) rfl ?_
  obtain ⟨κ', ρ', he, h⟩ := h
  exact p_callV (cc3 c69_19) (Nat.le_of_ble_eq_true rfl) rfl rfl (Nat.le_of_ble_eq_true rfl) g1 he h
theorem B69_22 {ev : xV} {Q : Option Value → xM → Prop} {sz sl : Nat} {K L : Nat → Nat} {κ : Nat → Nat → Int32} {ρ : Nat → Nat → Nat} {a0 a1 a2 : Nat} (h : ((K a0 = 4) ∧ ∃ r κ' ρ', ev 75 [.ref a0, .int 0, .int 4] (Mm sz sl K L κ ρ) (some (.int r)) (Mm sz sl K L κ' ρ') ∧ wpE (xT 69) ev Q (28, [(0, .ref a0), (1, .ref a1), (2, .ref a2)], [.int r], Mm sz sl K L κ' ρ'))) : wpE (xT 69) ev Q (22, [(0, .ref a0), (1, .ref a1), (2, .ref a2)], [], Mm sz sl K L κ ρ) := by
  refine p_ald (cc3 c69_22) rfl ?_
  refine p_push (cc3 c69_23) ?_
  refine p_push (cc3 c69_24) ?_
  obtain ⟨g1, h⟩ := h
  obtain ⟨r, κ', ρ', he, h⟩ := h
  exact p_callV (cc3 c69_25) (Nat.le_of_ble_eq_true rfl) rfl rfl (Nat.le_of_ble_eq_true rfl) g1 he h
theorem B69_28 {ev : xV} {Q : Option Value → xM → Prop} {sz sl : Nat} {K L : Nat → Nat} {κ : Nat → Nat → Int32} {ρ : Nat → Nat → Nat} {s0 : Int32} {a0 a1 a2 : Nat} (h : (K a0 = 4) ∧ (¬ ρ a0 5 = 0) ∧ (K (ρ a0 5) = 3) ∧ (∃ r κ' ρ', ev 36 [.int (κ (ρ a0 5) 4), .int 24] (Mm sz sl K L κ ρ) (some (.int r)) (Mm sz sl K L κ' ρ') ∧ wpE (xT 69) ev Q (41, [(3, .int s0), (0, .ref a0), (1, .ref a1), (2, .ref a2)], [.int r], Mm sz sl K L κ' ρ'))) : wpE (xT 69) ev Q (28, [(0, .ref a0), (1, .ref a1), (2, .ref a2)], [.int s0], Mm sz sl K L κ ρ) := by
  refine p_ist (ls' := [(3, .int s0), (0, .ref a0), (1, .ref a1), (2, .ref a2)]) (cc3 c69_28) (by decide) rfl ?_
  refine p_ald (cc3 c69_29) rfl ?_
  obtain ⟨g1, h⟩ := h
  obtain ⟨g2, h⟩ := h
  refine p_getp (cc3 c69_30) g1 rfl g2 ?_
  obtain ⟨g3, h⟩ := h
  refine p_geti (cc3 c69_33) g3 rfl ?_
  refine p_push (cc3 c69_36) ?_
  obtain ⟨r, κ', ρ', he, h⟩ := h
  exact p_callS (cc3 c69_38) (Nat.le_of_ble_eq_true rfl) rfl rfl (Nat.le_of_ble_eq_true rfl) he h
theorem B69_41 {ev : xV} {Q : Option Value → xM → Prop} {sz sl : Nat} {K L : Nat → Nat} {κ : Nat → Nat → Int32} {ρ : Nat → Nat → Nat} {x3 s0 : Int32} {a0 a1 a2 : Nat} (h : wpE (xT 69) ev Q (45, [(0, .ref a0), (3, .int x3), (4, .int (s0 - 1))], [], Mm sz sl K L κ ρ)) : wpE (xT 69) ev Q (41, [(3, .int x3), (0, .ref a0), (1, .ref a1), (2, .ref a2)], [.int s0], Mm sz sl K L κ ρ) := by
  refine p_push (cc3 c69_41) ?_
  refine p_bin (cc3 c69_42) ?_
  refine p_ist (ls' := [(4, .int (s0 - 1)), (3, .int x3), (0, .ref a0), (1, .ref a1), (2, .ref a2)]) (cc3 c69_43) (by decide) rfl ?_
  exact p_lc (ls' := [(0, .ref a0), (3, .int x3), (4, .int (s0 - 1))]) c69_45 rfl rfl h
theorem B69_45 {ev : xV} {Q : Option Value → xM → Prop} {sz sl : Nat} {K L : Nat → Nat} {κ : Nat → Nat → Int32} {ρ : Nat → Nat → Nat} {x3 x4 : Int32} {a0 : Nat} (h : ((x4 < 0) → (K a0 = 4) ∧ wpE (xT 69) ev Q (114, [(0, .ref a0), (4, .int 0)], [], Mm sz sl K L (U κ a0 4 (-1)) ρ)) ∧ (¬ (x4 < 0) → wpE (xT 69) ev Q (53, [(0, .ref a0), (3, .int x3), (4, .int x4), (5, .int 0)], [], Mm sz sl K L κ ρ))) : wpE (xT 69) ev Q (45, [(0, .ref a0), (3, .int x3), (4, .int x4)], [], Mm sz sl K L κ ρ) := by
  refine p_ild (cct c69_45 rfl) rfl ?_
  refine p_if (cc3 c69_47) (fun c => ?_) (fun c => ?_)
  · have h := h.1 c
    refine p_ald (cc3 c69_106) rfl ?_
    refine p_push (cc3 c69_107) ?_
    obtain ⟨g1, h⟩ := h
    refine p_puti (cc3 c69_108) g1 mm_xpi ?_
    refine p_push (cc3 c69_111) ?_
    refine p_ist (ls' := [(4, .int 0), (0, .ref a0), (3, .int x3)]) (cc3 c69_112) (by decide) rfl ?_
    exact p_lc (ls' := [(0, .ref a0), (4, .int 0)]) c69_114 rfl rfl h
  · have h := h.2 c
    refine p_push (cc3 c69_50) ?_
    refine p_ist (ls' := [(5, .int 0), (0, .ref a0), (3, .int x3), (4, .int x4)]) (cc3 c69_51) (by decide) rfl ?_
    exact p_lc (ls' := [(0, .ref a0), (3, .int x3), (4, .int x4), (5, .int 0)]) c69_53 rfl rfl h
theorem B69_53 {ev : xV} {Q : Option Value → xM → Prop} {sz sl : Nat} {K L : Nat → Nat} {κ : Nat → Nat → Int32} {ρ : Nat → Nat → Nat} {x3 x4 x5 : Int32} {a0 : Nat} (h : (((3 + (x4 * x3)) < x5) → wpE (xT 69) ev Q (45, [(0, .ref a0), (3, .int x3), (4, .int (x4 + (-1)))], [], Mm sz sl K L κ ρ)) ∧ (¬ ((3 + (x4 * x3)) < x5) → ((211 ≤ x5) → wpE (xT 69) ev Q (45, [(0, .ref a0), (3, .int x3), (4, .int (x4 + (-1)))], [], Mm sz sl K L κ ρ)) ∧ (¬ (211 ≤ x5) → (K a0 = 4) ∧ (¬ ρ a0 0 = 0) ∧ (∃ r κ' ρ', ev 76 [.ref a0, .int x4, .int x5] (Mm sz sl K L κ ρ) (some (.int r)) (Mm sz sl K L κ' ρ') ∧ wpE (xT 69) ev Q (93, [(0, .ref a0), (3, .int x3), (4, .int x4), (5, .int x5)], [.int r, .int ((x4 * 211) + x5), .ref (ρ a0 0)], Mm sz sl K L κ' ρ'))))) : wpE (xT 69) ev Q (53, [(0, .ref a0), (3, .int x3), (4, .int x4), (5, .int x5)], [], Mm sz sl K L κ ρ) := by
  refine p_ild (cct c69_53 rfl) rfl ?_
  refine p_push (cc3 c69_55) ?_
  refine p_ild (cc3 c69_56) rfl ?_
  refine p_ild (cc3 c69_58) rfl ?_
  refine p_bin (cc3 c69_59) ?_
  refine p_bin (cc3 c69_60) ?_
  refine p_icmp (cc3 c69_61) (fun c => ?_) (fun c => ?_)
  · have h := h.1 c
    refine p_lc (ls' := [(0, .ref a0), (3, .int x3), (4, .int x4)]) c69_100 rfl rfl ?_
    refine p_iinc (y := x4 + (-1)) (ls' := [(4, .int (x4 + (-1))), (0, .ref a0), (3, .int x3)]) (cct c69_100 rfl) (by decide) rfl rfl rfl ?_
    refine p_goto (cc3 c69_103) ?_
    exact p_lc (ls' := [(0, .ref a0), (3, .int x3), (4, .int (x4 + (-1)))]) c69_45 rfl rfl h
  · have h := h.2 c
    refine p_ild (cc3 c69_64) rfl ?_
    refine p_push (cc3 c69_66) ?_
    refine p_icmp (cc3 c69_69) (fun c => ?_) (fun c => ?_)
    · have h := h.1 c
      refine p_lc (ls' := [(0, .ref a0), (3, .int x3), (4, .int x4)]) c69_100 rfl rfl ?_
      refine p_iinc (y := x4 + (-1)) (ls' := [(4, .int (x4 + (-1))), (0, .ref a0), (3, .int x3)]) (cct c69_100 rfl) (by decide) rfl rfl rfl ?_
      refine p_goto (cc3 c69_103) ?_
      exact p_lc (ls' := [(0, .ref a0), (3, .int x3), (4, .int (x4 + (-1)))]) c69_45 rfl rfl h
    · have h := h.2 c
      refine p_ald (cc3 c69_72) rfl ?_
      obtain ⟨g1, h⟩ := h
      obtain ⟨g2, h⟩ := h
      refine p_getp (cc3 c69_73) g1 rfl g2 ?_
      refine p_ild (cc3 c69_76) rfl ?_
      refine p_push (cc3 c69_78) ?_
      refine p_bin (cc3 c69_81) ?_
      refine p_ild (cc3 c69_82) rfl ?_
      refine p_bin (cc3 c69_84) ?_
      refine p_ald (cc3 c69_85) rfl ?_
      refine p_ild (cc3 c69_86) rfl ?_
      refine p_ild (cc3 c69_88) rfl ?_
      obtain ⟨r, κ', ρ', he, h⟩ := h
      exact p_callV (cc3 c69_90) (Nat.le_of_ble_eq_true rfl) rfl rfl (Nat.le_of_ble_eq_true rfl) g1 he h
theorem B69_93 {ev : xV} {Q : Option Value → xM → Prop} {sz sl : Nat} {K L : Nat → Nat} {κ : Nat → Nat → Int32} {ρ : Nat → Nat → Nat} {x3 x4 x5 s0 s1 : Int32} {a0 b2 : Nat} (h : (K b2 = 20) ∧ (vp_in s1 (L b2)) ∧ wpE (xT 69) ev Q (53, [(0, .ref a0), (3, .int x3), (4, .int x4), (5, .int (x5 + 1))], [], Mm sz sl K L (U κ b2 s1.toNatClampNeg s0) ρ)) : wpE (xT 69) ev Q (93, [(0, .ref a0), (3, .int x3), (4, .int x4), (5, .int x5)], [.int s0, .int s1, .ref b2], Mm sz sl K L κ ρ) := by
  obtain ⟨g1, h⟩ := h
  obtain ⟨g2, h⟩ := h
  refine p_asti (cc3 c69_93) g1 g2 mm_xpi ?_
  refine p_iinc (y := x5 + 1) (ls' := [(5, .int (x5 + 1)), (0, .ref a0), (3, .int x3), (4, .int x4)]) (cc3 c69_94) (by decide) rfl rfl rfl ?_
  refine p_goto (cc3 c69_97) ?_
  exact p_lc (ls' := [(0, .ref a0), (3, .int x3), (4, .int x4), (5, .int (x5 + 1))]) c69_53 rfl rfl h
theorem B69_114 {ev : xV} {Q : Option Value → xM → Prop} {sz sl : Nat} {K L : Nat → Nat} {κ : Nat → Nat → Int32} {ρ : Nat → Nat → Nat} {x4 : Int32} {a0 : Nat} (h : ((3 < x4) → (K a0 = 4) ∧ (((κ a0 4) = (-1)) → Q (some (.int ((-1)))) (Mm sz sl K L κ ρ)) ∧ (¬ ((κ a0 4) = (-1)) → (∃ r κ' ρ', ev 77 [.ref a0, .int (κ a0 4)] (Mm sz sl K L κ ρ) (some (.int r)) (Mm sz sl K L κ' ρ') ∧ wpE (xT 69) ev Q (173, [], [.int r], Mm sz sl K L κ' ρ')))) ∧ (¬ (3 < x4) → ((K a0 = 4) ∧ ∃ r κ' ρ', ev 82 [.ref a0, .int x4] (Mm sz sl K L κ ρ) (some (.int r)) (Mm sz sl K L κ' ρ') ∧ wpE (xT 69) ev Q (126, [(0, .ref a0), (4, .int x4)], [.int r], Mm sz sl K L κ' ρ')))) : wpE (xT 69) ev Q (114, [(0, .ref a0), (4, .int x4)], [], Mm sz sl K L κ ρ) := by
  refine p_ild (cct c69_114 rfl) rfl ?_
  refine p_push (cc3 c69_116) ?_
  refine p_icmp (cc3 c69_117) (fun c => ?_) (fun c => ?_)
  · have h := h.1 c
    refine p_ald (cc3 c69_153) rfl ?_
    obtain ⟨g1, h⟩ := h
    refine p_geti (cc3 c69_154) g1 rfl ?_
    refine p_push (cc3 c69_157) ?_
    refine p_icmp (cc3 c69_158) (fun c => ?_) (fun c => ?_)
    · have h := h.1 c
      refine p_push (cc3 c69_161) ?_
      refine p_goto (cc3 c69_162) ?_
      refine p_lc (ls' := []) c69_173 rfl rfl ?_
      exact p_ri (cct c69_173 rfl) trivial h
    · have h := h.2 c
      refine p_ald (cc3 c69_165) rfl ?_
      refine p_ald (cc3 c69_166) rfl ?_
      refine p_geti (cc3 c69_167) g1 rfl ?_
      obtain ⟨r, κ', ρ', he, h⟩ := h
      exact p_callV (cc3 c69_170) (Nat.le_of_ble_eq_true rfl) rfl rfl (Nat.le_of_ble_eq_true rfl) g1 he (p_lc (ls' := []) c69_173 rfl rfl h)
  · have h := h.2 c
    refine p_ald (cc3 c69_120) rfl ?_
    refine p_ild (cc3 c69_121) rfl ?_
    obtain ⟨g1, h⟩ := h
    obtain ⟨r, κ', ρ', he, h⟩ := h
    exact p_callV (cc3 c69_123) (Nat.le_of_ble_eq_true rfl) rfl rfl (Nat.le_of_ble_eq_true rfl) g1 he h
theorem B69_126 {ev : xV} {Q : Option Value → xM → Prop} {sz sl : Nat} {K L : Nat → Nat} {κ : Nat → Nat → Int32} {ρ : Nat → Nat → Nat} {x4 s0 : Int32} {a0 : Nat} (h : ((s0 = 0) → wpE (xT 69) ev Q (114, [(0, .ref a0), (4, .int (x4 + 1))], [], Mm sz sl K L κ ρ)) ∧ (¬ (s0 = 0) → (K a0 = 4) ∧ (∃ r κ' ρ', ev 80 [.ref a0, .int 0, .int x4] (Mm sz sl K L κ ρ) (some (.int r)) (Mm sz sl K L κ' ρ') ∧ wpE (xT 69) ev Q (141, [(0, .ref a0), (4, .int x4)], [.int r, .int (κ a0 4), .ref a0], Mm sz sl K L κ' ρ')))) : wpE (xT 69) ev Q (126, [(0, .ref a0), (4, .int x4)], [.int s0], Mm sz sl K L κ ρ) := by
  refine p_if (cc3 c69_126) (fun c => ?_) (fun c => ?_)
  · have h := h.1 c
    refine p_iinc (y := x4 + 1) (ls' := [(4, .int (x4 + 1)), (0, .ref a0)]) (cct c69_147 rfl) (by decide) rfl rfl rfl ?_
    refine p_goto (cc3 c69_150) ?_
    exact p_lc (ls' := [(0, .ref a0), (4, .int (x4 + 1))]) c69_114 rfl rfl h
  · have h := h.2 c
    refine p_ald (cc3 c69_129) rfl ?_
    refine p_ald (cc3 c69_130) rfl ?_
    obtain ⟨g1, h⟩ := h
    refine p_geti (cc3 c69_131) g1 rfl ?_
    refine p_ald (cc3 c69_134) rfl ?_
    refine p_push (cc3 c69_135) ?_
    refine p_ild (cc3 c69_136) rfl ?_
    obtain ⟨r, κ', ρ', he, h⟩ := h
    exact p_callV (cc3 c69_138) (Nat.le_of_ble_eq_true rfl) rfl rfl (Nat.le_of_ble_eq_true rfl) g1 he h
theorem B69_141 {ev : xV} {Q : Option Value → xM → Prop} {sz sl : Nat} {K L : Nat → Nat} {κ : Nat → Nat → Int32} {ρ : Nat → Nat → Nat} {x4 s0 s1 : Int32} {a0 b2 : Nat} (h : (∃ r κ' ρ', ev 81 [.int s1, .int s0] (Mm sz sl K L κ ρ) (some (.int r)) (Mm sz sl K L κ' ρ') ∧ wpE (xT 69) ev Q (144, [(0, .ref a0), (4, .int x4)], [.int r, .ref b2], Mm sz sl K L κ' ρ'))) : wpE (xT 69) ev Q (141, [(0, .ref a0), (4, .int x4)], [.int s0, .int s1, .ref b2], Mm sz sl K L κ ρ) := by
  obtain ⟨r, κ', ρ', he, h⟩ := h
  exact p_callS (cc3 c69_141) (Nat.le_of_ble_eq_true rfl) rfl rfl (Nat.le_of_ble_eq_true rfl) he h
theorem B69_144 {ev : xV} {Q : Option Value → xM → Prop} {sz sl : Nat} {K L : Nat → Nat} {κ : Nat → Nat → Int32} {ρ : Nat → Nat → Nat} {x4 s0 : Int32} {a0 b1 : Nat} (h : (K b1 = 4) ∧ wpE (xT 69) ev Q (114, [(0, .ref a0), (4, .int (x4 + 1))], [], Mm sz sl K L (U κ b1 4 s0) ρ)) : wpE (xT 69) ev Q (144, [(0, .ref a0), (4, .int x4)], [.int s0, .ref b1], Mm sz sl K L κ ρ) := by
  obtain ⟨g1, h⟩ := h
  refine p_puti (cc3 c69_144) g1 mm_xpi ?_
  refine p_iinc (y := x4 + 1) (ls' := [(4, .int (x4 + 1)), (0, .ref a0)]) (cct c69_147 rfl) (by decide) rfl rfl rfl ?_
  refine p_goto (cc3 c69_150) ?_
  exact p_lc (ls' := [(0, .ref a0), (4, .int (x4 + 1))]) c69_114 rfl rfl h
theorem B69_173 {ev : xV} {Q : Option Value → xM → Prop} {sz sl : Nat} {K L : Nat → Nat} {κ : Nat → Nat → Int32} {ρ : Nat → Nat → Nat} {s0 : Int32} (h : Q (some (.int s0)) (Mm sz sl K L κ ρ)) : wpE (xT 69) ev Q (173, [], [.int s0], Mm sz sl K L κ ρ) := by
  exact p_ri (cct c69_173 rfl) trivial h
theorem B70_0 {ev : xV} {Q : Option Value → xM → Prop} {sz sl : Nat} {K L : Nat → Nat} {κ : Nat → Nat → Int32} {ρ : Nat → Nat → Nat} {a0 : Nat} (h : (K a0 = 4) ∧ (¬ ρ a0 5 = 0) ∧ (K (ρ a0 5) = 3) ∧ (¬ ρ a0 7 = 0) ∧ ((K (ρ a0 7) = 6) ∧ ∃ r κ' ρ', ev 71 [.ref (ρ a0 7), .int 0, .int ((κ (ρ a0 5) 7) / 2), .int 0] (Mm sz sl K L κ ρ) (some (.int r)) (Mm sz sl K L κ' ρ') ∧ wpE (xT 70) ev Q (21, [(1, .int ((κ (ρ a0 5) 7) / 2)), (0, .ref a0)], [.int r, .ref a0], Mm sz sl K L κ' ρ'))) : wpE (xT 70) ev Q (0, [(0, .ref a0)], [], Mm sz sl K L κ ρ) := by
  refine p_ald (cc3 c70_0) rfl ?_
  obtain ⟨g1, h⟩ := h
  obtain ⟨g2, h⟩ := h
  refine p_getp (cc3 c70_1) g1 rfl g2 ?_
  obtain ⟨g3, h⟩ := h
  refine p_geti (cc3 c70_4) g3 rfl ?_
  refine p_push (cc3 c70_7) ?_
  refine p_div (cc3 c70_8) (by decide) ?_
  refine p_ist (ls' := [(1, .int ((κ (ρ a0 5) 7) / 2)), (0, .ref a0)]) (cc3 c70_9) (by decide) rfl ?_
  refine p_ald (cc3 c70_10) rfl ?_
  refine p_ald (cc3 c70_11) rfl ?_
  obtain ⟨g4, h⟩ := h
  refine p_getp (cc3 c70_12) g1 rfl g4 ?_
  refine p_push (cc3 c70_15) ?_
  refine p_ild (cc3 c70_16) rfl ?_
  refine p_push (cc3 c70_17) ?_
  obtain ⟨g5, h⟩ := h
  obtain ⟨r, κ', ρ', he, h⟩ := h
  exact p_callV (cc3 c70_18) (Nat.le_of_ble_eq_true rfl) rfl rfl (Nat.le_of_ble_eq_true rfl) g5 he h
theorem B70_21 {ev : xV} {Q : Option Value → xM → Prop} {sz sl : Nat} {K L : Nat → Nat} {κ : Nat → Nat → Int32} {ρ : Nat → Nat → Nat} {x1 s0 : Int32} {a0 b1 : Nat} (h : (K b1 = 4) ∧ (K a0 = 4) ∧ (¬ ρ a0 5 = 0) ∧ (K (ρ a0 5) = 3) ∧ ((((U κ b1 2 s0) (ρ a0 5) 9) = 0) → wpE (xT 70) ev Q (77, [(0, .ref a0), (1, .int x1), (2, .int (((U κ b1 2 s0) a0 2) + ((U κ b1 2 s0) (ρ a0 5) 7))), (3, .int (((U κ b1 2 s0) a0 2) + ((U κ b1 2 s0) (ρ a0 5) 7))), (4, .int 0)], [], Mm sz sl K L (U κ b1 2 s0) ρ)) ∧ (¬ (((U κ b1 2 s0) (ρ a0 5) 9) = 0) → (¬ ρ a0 7 = 0) ∧ ((K (ρ a0 7) = 6) ∧ ∃ r κ' ρ', ev 71 [.ref (ρ a0 7), .int (((U κ b1 2 s0) a0 2) + ((U κ b1 2 s0) (ρ a0 5) 7)), .int (((U κ b1 2 s0) (ρ a0 5) 6) / 2), .int ((U κ b1 2 s0) (ρ a0 5) 5)] (Mm sz sl K L (U κ b1 2 s0) ρ) (some (.int r)) (Mm sz sl K L κ' ρ') ∧ wpE (xT 70) ev Q (71, [(2, .int (((U κ b1 2 s0) a0 2) + ((U κ b1 2 s0) (ρ a0 5) 7))), (1, .int x1), (0, .ref a0)], [.int r], Mm sz sl K L κ' ρ')))) : wpE (xT 70) ev Q (21, [(1, .int x1), (0, .ref a0)], [.int s0, .ref b1], Mm sz sl K L κ ρ) := by
  obtain ⟨g1, h⟩ := h
  refine p_puti (cc3 c70_21) g1 mm_xpi ?_
  refine p_ald (cc3 c70_24) rfl ?_
  obtain ⟨g2, h⟩ := h
  refine p_geti (cc3 c70_25) g2 rfl ?_
  refine p_ald (cc3 c70_28) rfl ?_
  obtain ⟨g3, h⟩ := h
  refine p_getp (cc3 c70_29) g2 rfl g3 ?_
  obtain ⟨g4, h⟩ := h
  refine p_geti (cc3 c70_32) g4 rfl ?_
  refine p_bin (cc3 c70_35) ?_
  refine p_ist (ls' := [(2, .int (((U κ b1 2 s0) a0 2) + ((U κ b1 2 s0) (ρ a0 5) 7))), (1, .int x1), (0, .ref a0)]) (cc3 c70_36) (by decide) rfl ?_
  refine p_ald (cc3 c70_37) rfl ?_
  refine p_getp (cc3 c70_38) g2 rfl g3 ?_
  refine p_geti (cc3 c70_41) g4 rfl ?_
  refine p_if (cc3 c70_44) (fun c => ?_) (fun c => ?_)
  · have h := h.1 c
    refine p_lc (ls' := [(0, .ref a0), (1, .int x1), (2, .int (((U κ b1 2 s0) a0 2) + ((U κ b1 2 s0) (ρ a0 5) 7)))]) c70_72 rfl rfl ?_
    refine p_ild (cct c70_72 rfl) rfl ?_
    refine p_ist (ls' := [(3, .int (((U κ b1 2 s0) a0 2) + ((U κ b1 2 s0) (ρ a0 5) 7))), (0, .ref a0), (1, .int x1), (2, .int (((U κ b1 2 s0) a0 2) + ((U κ b1 2 s0) (ρ a0 5) 7)))]) (cc3 c70_73) (by decide) rfl ?_
    refine p_push (cc3 c70_74) ?_
    refine p_ist (ls' := [(4, .int 0), (3, .int (((U κ b1 2 s0) a0 2) + ((U κ b1 2 s0) (ρ a0 5) 7))), (0, .ref a0), (1, .int x1), (2, .int (((U κ b1 2 s0) a0 2) + ((U κ b1 2 s0) (ρ a0 5) 7)))]) (cc3 c70_75) (by decide) rfl ?_
    exact p_lc (ls' := [(0, .ref a0), (1, .int x1), (2, .int (((U κ b1 2 s0) a0 2) + ((U κ b1 2 s0) (ρ a0 5) 7))), (3, .int (((U κ b1 2 s0) a0 2) + ((U κ b1 2 s0) (ρ a0 5) 7))), (4, .int 0)]) c70_77 rfl rfl h
  · have h := h.2 c
    refine p_ald (cc3 c70_47) rfl ?_
    obtain ⟨g5, h⟩ := h
    refine p_getp (cc3 c70_48) g2 rfl g5 ?_
    refine p_ild (cc3 c70_51) rfl ?_
    refine p_ald (cc3 c70_52) rfl ?_
    refine p_getp (cc3 c70_53) g2 rfl g3 ?_
    refine p_geti (cc3 c70_56) g4 rfl ?_
    refine p_push (cc3 c70_59) ?_
    refine p_div (cc3 c70_60) (by decide) ?_
    refine p_ald (cc3 c70_61) rfl ?_
    refine p_getp (cc3 c70_62) g2 rfl g3 ?_
    refine p_geti (cc3 c70_65) g4 rfl ?_
    obtain ⟨g6, h⟩ := h
    obtain ⟨r, κ', ρ', he, h⟩ := h
    exact p_callV (cc3 c70_68) (Nat.le_of_ble_eq_true rfl) rfl rfl (Nat.le_of_ble_eq_true rfl) g6 he h
theorem B70_71 {ev : xV} {Q : Option Value → xM → Prop} {sz sl : Nat} {K L : Nat → Nat} {κ : Nat → Nat → Int32} {ρ : Nat → Nat → Nat} {x2 x1 s0 : Int32} {a0 : Nat} (h : wpE (xT 70) ev Q (77, [(0, .ref a0), (1, .int x1), (2, .int s0), (3, .int s0), (4, .int 0)], [], Mm sz sl K L κ ρ)) : wpE (xT 70) ev Q (71, [(2, .int x2), (1, .int x1), (0, .ref a0)], [.int s0], Mm sz sl K L κ ρ) := by
  refine p_ist (ls' := [(2, .int s0), (1, .int x1), (0, .ref a0)]) (cc3 c70_71) (by decide) rfl ?_
  refine p_lc (ls' := [(0, .ref a0), (1, .int x1), (2, .int s0)]) c70_72 rfl rfl ?_
  refine p_ild (cct c70_72 rfl) rfl ?_
  refine p_ist (ls' := [(3, .int s0), (0, .ref a0), (1, .int x1), (2, .int s0)]) (cc3 c70_73) (by decide) rfl ?_
  refine p_push (cc3 c70_74) ?_
  refine p_ist (ls' := [(4, .int 0), (3, .int s0), (0, .ref a0), (1, .int x1), (2, .int s0)]) (cc3 c70_75) (by decide) rfl ?_
  exact p_lc (ls' := [(0, .ref a0), (1, .int x1), (2, .int s0), (3, .int s0), (4, .int 0)]) c70_77 rfl rfl h
theorem B70_77 {ev : xV} {Q : Option Value → xM → Prop} {sz sl : Nat} {K L : Nat → Nat} {κ : Nat → Nat → Int32} {ρ : Nat → Nat → Nat} {x1 x2 x3 x4 : Int32} {a0 : Nat} (h : (K a0 = 4) ∧ (¬ ρ a0 5 = 0) ∧ (K (ρ a0 5) = 3) ∧ (((κ (ρ a0 5) 4) ≤ x4) → (¬ ρ a0 7 = 0) ∧ ((K (ρ a0 7) = 6) ∧ ∃ r κ' ρ', ev 71 [.ref (ρ a0 7), .int (x3 + (κ (ρ a0 5) 6)), .int x1, .int 0] (Mm sz sl K L κ ρ) (some (.int r)) (Mm sz sl K L κ' ρ') ∧ wpE (xT 70) ev Q (140, [(0, .ref a0), (1, .int x1), (3, .int x3)], [.int r, .ref a0], Mm sz sl K L κ' ρ'))) ∧ (¬ ((κ (ρ a0 5) 4) ≤ x4) → ((24 ≤ x4) → (¬ ρ a0 7 = 0) ∧ ((K (ρ a0 7) = 6) ∧ ∃ r κ' ρ', ev 71 [.ref (ρ a0 7), .int (x3 + (κ (ρ a0 5) 6)), .int x1, .int 0] (Mm sz sl K L κ ρ) (some (.int r)) (Mm sz sl K L κ' ρ') ∧ wpE (xT 70) ev Q (140, [(0, .ref a0), (1, .int x1), (3, .int x3)], [.int r, .ref a0], Mm sz sl K L κ' ρ'))) ∧ (¬ (24 ≤ x4) → (¬ ρ a0 1 = 0) ∧ (K (ρ a0 1) = 20) ∧ (vp_in x4 (L (ρ a0 1))) ∧ (∃ r κ' ρ', ev 73 [.ref a0, .int x4] (Mm sz sl K L (U κ (ρ a0 1) x4.toNatClampNeg x2) ρ) (some (.int r)) (Mm sz sl K L κ' ρ') ∧ wpE (xT 70) ev Q (113, [(3, .int x2), (0, .ref a0), (1, .int x1), (2, .int x2), (4, .int x4)], [.int r, .int x2], Mm sz sl K L κ' ρ'))))) : wpE (xT 70) ev Q (77, [(0, .ref a0), (1, .int x1), (2, .int x2), (3, .int x3), (4, .int x4)], [], Mm sz sl K L κ ρ) := by
  refine p_ild (cct c70_77 rfl) rfl ?_
  refine p_ald (cc3 c70_79) rfl ?_
  obtain ⟨g1, h⟩ := h
  obtain ⟨g2, h⟩ := h
  refine p_getp (cc3 c70_80) g1 rfl g2 ?_
  obtain ⟨g3, h⟩ := h
  refine p_geti (cc3 c70_83) g3 rfl ?_
  refine p_icmp (cc3 c70_86) (fun c => ?_) (fun c => ?_)
  · have h := h.1 c
    refine p_lc (ls' := [(0, .ref a0), (1, .int x1), (3, .int x3)]) c70_121 rfl rfl ?_
    refine p_ald (cct c70_121 rfl) rfl ?_
    refine p_ald (cc3 c70_122) rfl ?_
    obtain ⟨g4, h⟩ := h
    refine p_getp (cc3 c70_123) g1 rfl g4 ?_
    refine p_ild (cc3 c70_126) rfl ?_
    refine p_ald (cc3 c70_127) rfl ?_
    refine p_getp (cc3 c70_128) g1 rfl g2 ?_
    refine p_geti (cc3 c70_131) g3 rfl ?_
    refine p_bin (cc3 c70_134) ?_
    refine p_ild (cc3 c70_135) rfl ?_
    refine p_push (cc3 c70_136) ?_
    obtain ⟨g5, h⟩ := h
    obtain ⟨r, κ', ρ', he, h⟩ := h
    exact p_callV (cc3 c70_137) (Nat.le_of_ble_eq_true rfl) rfl rfl (Nat.le_of_ble_eq_true rfl) g5 he h
  · have h := h.2 c
    refine p_ild (cc3 c70_89) rfl ?_
    refine p_push (cc3 c70_91) ?_
    refine p_icmp (cc3 c70_93) (fun c => ?_) (fun c => ?_)
    · have h := h.1 c
      refine p_lc (ls' := [(0, .ref a0), (1, .int x1), (3, .int x3)]) c70_121 rfl rfl ?_
      refine p_ald (cct c70_121 rfl) rfl ?_
      refine p_ald (cc3 c70_122) rfl ?_
      obtain ⟨g4, h⟩ := h
      refine p_getp (cc3 c70_123) g1 rfl g4 ?_
      refine p_ild (cc3 c70_126) rfl ?_
      refine p_ald (cc3 c70_127) rfl ?_
      refine p_getp (cc3 c70_128) g1 rfl g2 ?_
      refine p_geti (cc3 c70_131) g3 rfl ?_
      refine p_bin (cc3 c70_134) ?_
      refine p_ild (cc3 c70_135) rfl ?_
      refine p_push (cc3 c70_136) ?_
      obtain ⟨g5, h⟩ := h
      obtain ⟨r, κ', ρ', he, h⟩ := h
      exact p_callV (cc3 c70_137) (Nat.le_of_ble_eq_true rfl) rfl rfl (Nat.le_of_ble_eq_true rfl) g5 he h
    · have h := h.2 c
      refine p_ald (cc3 c70_96) rfl ?_
      obtain ⟨g4, h⟩ := h
      refine p_getp (cc3 c70_97) g1 rfl g4 ?_
      refine p_ild (cc3 c70_100) rfl ?_
      refine p_ild (cc3 c70_102) rfl ?_
      obtain ⟨g5, h⟩ := h
      obtain ⟨g6, h⟩ := h
      refine p_asti (cc3 c70_103) g5 g6 mm_xpi ?_
      refine p_ild (cc3 c70_104) rfl ?_
      refine p_ist (ls' := [(3, .int x2), (0, .ref a0), (1, .int x1), (2, .int x2), (4, .int x4)]) (cc3 c70_105) (by decide) rfl ?_
      refine p_ild (cc3 c70_106) rfl ?_
      refine p_ald (cc3 c70_107) rfl ?_
      refine p_ild (cc3 c70_108) rfl ?_
      obtain ⟨r, κ', ρ', he, h⟩ := h
      exact p_callV (cc3 c70_110) (Nat.le_of_ble_eq_true rfl) rfl rfl (Nat.le_of_ble_eq_true rfl) g1 he h
theorem B70_113 {ev : xV} {Q : Option Value → xM → Prop} {sz sl : Nat} {K L : Nat → Nat} {κ : Nat → Nat → Int32} {ρ : Nat → Nat → Nat} {x3 x1 x2 x4 s0 s1 : Int32} {a0 : Nat} (h : wpE (xT 70) ev Q (77, [(0, .ref a0), (1, .int x1), (2, .int (s1 + s0)), (3, .int x3), (4, .int (x4 + 1))], [], Mm sz sl K L κ ρ)) : wpE (xT 70) ev Q (113, [(3, .int x3), (0, .ref a0), (1, .int x1), (2, .int x2), (4, .int x4)], [.int s0, .int s1], Mm sz sl K L κ ρ) := by
  refine p_bin (cc3 c70_113) ?_
  refine p_ist (ls' := [(2, .int (s1 + s0)), (3, .int x3), (0, .ref a0), (1, .int x1), (4, .int x4)]) (cc3 c70_114) (by decide) rfl ?_
  refine p_iinc (y := x4 + 1) (ls' := [(4, .int (x4 + 1)), (2, .int (s1 + s0)), (3, .int x3), (0, .ref a0), (1, .int x1)]) (cc3 c70_115) (by decide) rfl rfl rfl ?_
  refine p_goto (cc3 c70_118) ?_
  exact p_lc (ls' := [(0, .ref a0), (1, .int x1), (2, .int (s1 + s0)), (3, .int x3), (4, .int (x4 + 1))]) c70_77 rfl rfl h
theorem B70_140 {ev : xV} {Q : Option Value → xM → Prop} {sz sl : Nat} {K L : Nat → Nat} {κ : Nat → Nat → Int32} {ρ : Nat → Nat → Nat} {x1 x3 s0 : Int32} {a0 b1 : Nat} (h : (K b1 = 4) ∧ Q none (Mm sz sl K L (U κ b1 3 s0) ρ)) : wpE (xT 70) ev Q (140, [(0, .ref a0), (1, .int x1), (3, .int x3)], [.int s0, .ref b1], Mm sz sl K L κ ρ) := by
  obtain ⟨g1, h⟩ := h
  refine p_puti (cc3 c70_140) g1 mm_xpi ?_
  exact p_rv (cc3 c70_143) h
theorem B71_0 {ev : xV} {Q : Option Value → xM → Prop} {sz sl : Nat} {K L : Nat → Nat} {κ : Nat → Nat → Int32} {ρ : Nat → Nat → Nat} {x1 x2 x3 : Int32} {a0 : Nat} (h : ((K a0 = 6) ∧ ∃ r κ' ρ', ev 48 [.ref a0, .int x3] (Mm sz sl K L κ ρ) (some (.int r)) (Mm sz sl K L κ' ρ') ∧ wpE (xT 71) ev Q (5, [(0, .ref a0), (1, .int x1), (2, .int x2), (3, .int x3)], [.int r], Mm sz sl K L κ' ρ'))) : wpE (xT 71) ev Q (0, [(0, .ref a0), (1, .int x1), (2, .int x2), (3, .int x3)], [], Mm sz sl K L κ ρ) := by
  refine p_ald (cc3 c71_0) rfl ?_
  refine p_ild (cc3 c71_1) rfl ?_
  obtain ⟨g1, h⟩ := h
  obtain ⟨r, κ', ρ', he, h⟩ := h
  exact p_callV (cc3 c71_2) (Nat.le_of_ble_eq_true rfl) rfl rfl (Nat.le_of_ble_eq_true rfl) g1 he h
theorem B71_5 {ev : xV} {Q : Option Value → xM → Prop} {sz sl : Nat} {K L : Nat → Nat} {κ : Nat → Nat → Int32} {ρ : Nat → Nat → Nat} {x1 x2 x3 s0 : Int32} {a0 : Nat} (h : ((s0 = 0) → Q (some (.int x1)) (Mm sz sl K L κ ρ)) ∧ (¬ (s0 = 0) → (K a0 = 6) ∧ ((1 ≤ (κ a0 1)) → (¬ ρ a0 5 = 0) ∧ (K (ρ a0 5) = 20) ∧ (vp_in x3 (L (ρ a0 5))) ∧ (∃ r κ' ρ', ev 72 [.int (((κ (ρ a0 5) x3.toNatClampNeg) - x2) - x1), .int (κ a0 1)] (Mm sz sl K L κ ρ) (some (.int r)) (Mm sz sl K L κ' ρ') ∧ wpE (xT 71) ev Q (36, [(0, .ref a0), (1, .int x1), (2, .int x2), (3, .int x3)], [.int r, .int x1], Mm sz sl K L κ' ρ'))) ∧ (¬ (1 ≤ (κ a0 1)) → Q (some (.int x1)) (Mm sz sl K L κ ρ)))) : wpE (xT 71) ev Q (5, [(0, .ref a0), (1, .int x1), (2, .int x2), (3, .int x3)], [.int s0], Mm sz sl K L κ ρ) := by
  refine p_if (cc3 c71_5) (fun c => ?_) (fun c => ?_)
  · have h := h.1 c
    refine p_lc (ls' := [(1, .int x1)]) c71_16 rfl rfl ?_
    refine p_ild (cct c71_16 rfl) rfl ?_
    exact p_ri (cc3 c71_17) trivial h
  · have h := h.2 c
    refine p_ald (cc3 c71_8) rfl ?_
    obtain ⟨g1, h⟩ := h
    refine p_geti (cc3 c71_9) g1 rfl ?_
    refine p_push (cc3 c71_12) ?_
    refine p_icmp (cc3 c71_13) (fun c => ?_) (fun c => ?_)
    · have h := h.1 c
      refine p_ild (cc3 c71_18) rfl ?_
      refine p_ald (cc3 c71_19) rfl ?_
      obtain ⟨g2, h⟩ := h
      refine p_getp (cc3 c71_20) g1 rfl g2 ?_
      refine p_ild (cc3 c71_23) rfl ?_
      obtain ⟨g3, h⟩ := h
      obtain ⟨g4, h⟩ := h
      refine p_aldi (cc3 c71_24) g3 g4 rfl ?_
      refine p_ild (cc3 c71_25) rfl ?_
      refine p_bin (cc3 c71_26) ?_
      refine p_ild (cc3 c71_27) rfl ?_
      refine p_bin (cc3 c71_28) ?_
      refine p_ald (cc3 c71_29) rfl ?_
      refine p_geti (cc3 c71_30) g1 rfl ?_
      obtain ⟨r, κ', ρ', he, h⟩ := h
      exact p_callS (cc3 c71_33) (Nat.le_of_ble_eq_true rfl) rfl rfl (Nat.le_of_ble_eq_true rfl) he h
    · have h := h.2 c
      refine p_lc (ls' := [(1, .int x1)]) c71_16 rfl rfl ?_
      refine p_ild (cct c71_16 rfl) rfl ?_
      exact p_ri (cc3 c71_17) trivial h
theorem B71_36 {ev : xV} {Q : Option Value → xM → Prop} {sz sl : Nat} {K L : Nat → Nat} {κ : Nat → Nat → Int32} {ρ : Nat → Nat → Nat} {x1 x2 x3 s0 s1 : Int32} {a0 : Nat} (h : Q (some (.int (s1 + s0))) (Mm sz sl K L κ ρ)) : wpE (xT 71) ev Q (36, [(0, .ref a0), (1, .int x1), (2, .int x2), (3, .int x3)], [.int s0, .int s1], Mm sz sl K L κ ρ) := by
  refine p_bin (cc3 c71_36) ?_
  exact p_ri (cc3 c71_37) trivial h
