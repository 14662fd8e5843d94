theorem B0_0 {ev : xV} {Q : Option Value → xM → Prop} {sz sl : Nat} {K L : Nat → Nat} {κ : Nat → Nat → Int32} {ρ : Nat → Nat → Nat} {a0 : Nat} (h : (∃ sz' sl' K' L' κ' ρ', ev 1 [.ref sz] (Mm (sz + 1) (sl + 2) (va_up K sz 9) (va_up L sz 2) (Z0 κ sz) (ZR ρ sz)) none (Mm sz' sl' K' L' κ' ρ') ∧ wpE (xT 0) ev Q (12, [(0, .ref a0)], [.ref sz, .ref a0], Mm sz' sl' K' L' κ' ρ'))) : wpE (xT 0) ev Q (0, [(0, .ref a0)], [], Mm sz sl K L κ ρ) := by
  refine p_ald (cc3 c0_0) rfl ?_
  refine p_obj (cc3 c0_1) (Nat.le_of_ble_eq_true rfl) ?_
  refine p_ald (cc3 c0_4) rfl ?_
  refine p_new (cc3 c0_5) mm_new ?_
  refine p_dup (cc3 c0_8) rfl ?_
  obtain ⟨sz', sl', K', L', κ', ρ', he, h⟩ := h
  exact p_callI (cc3 c0_9) (Nat.le_of_ble_eq_true rfl) rfl rfl (Nat.le_of_ble_eq_true rfl) he h
theorem B0_12 {ev : xV} {Q : Option Value → xM → Prop} {sz sl : Nat} {K L : Nat → Nat} {κ : Nat → Nat → Int32} {ρ : Nat → Nat → Nat} {a0 b0 b1 : Nat} (h : (K b1 = 12) ∧ (¬ b0 = 0) ∧ (∃ sz' sl' K' L' κ' ρ', ev 2 [.ref sz] (Mm (sz + 1) (sl + 4) (va_up K sz 7) (va_up L sz 4) (Z0 κ sz) (ZR (UR ρ b1 0 b0) sz)) none (Mm sz' sl' K' L' κ' ρ') ∧ wpE (xT 0) ev Q (23, [(0, .ref a0)], [.ref sz, .ref a0], Mm sz' sl' K' L' κ' ρ'))) : wpE (xT 0) ev Q (12, [(0, .ref a0)], [.ref b0, .ref b1], Mm sz sl K L κ ρ) := by
  obtain ⟨g1, h⟩ := h
  obtain ⟨g2, h⟩ := h
  refine p_putp (cc3 c0_12) g1 g2 mm_xpp ?_
  refine p_ald (cc3 c0_15) rfl ?_
  refine p_new (cc3 c0_16) mm_new ?_
  refine p_dup (cc3 c0_19) rfl ?_
  obtain ⟨sz', sl', K', L', κ', ρ', he, h⟩ := h
  exact p_callI (cc3 c0_20) (Nat.le_of_ble_eq_true rfl) rfl rfl (Nat.le_of_ble_eq_true rfl) he h
theorem B0_23 {ev : xV} {Q : Option Value → xM → Prop} {sz sl : Nat} {K L : Nat → Nat} {κ : Nat → Nat → Int32} {ρ : Nat → Nat → Nat} {a0 b0 b1 : Nat} (h : (K b1 = 12) ∧ (¬ b0 = 0) ∧ (∃ sz' sl' K' L' κ' ρ', ev 3 [.ref sz] (Mm (sz + 1) (sl + 9) (va_up K sz 11) (va_up L sz 9) (Z0 κ sz) (ZR (UR ρ b1 1 b0) sz)) none (Mm sz' sl' K' L' κ' ρ') ∧ wpE (xT 0) ev Q (34, [(0, .ref a0)], [.ref sz, .ref a0], Mm sz' sl' K' L' κ' ρ'))) : wpE (xT 0) ev Q (23, [(0, .ref a0)], [.ref b0, .ref b1], Mm sz sl K L κ ρ) := by
  obtain ⟨g1, h⟩ := h
  obtain ⟨g2, h⟩ := h
  refine p_putp (cc3 c0_23) g1 g2 mm_xpp ?_
  refine p_ald (cc3 c0_26) rfl ?_
  refine p_new (cc3 c0_27) mm_new ?_
  refine p_dup (cc3 c0_30) rfl ?_
  obtain ⟨sz', sl', K', L', κ', ρ', he, h⟩ := h
  exact p_callI (cc3 c0_31) (Nat.le_of_ble_eq_true rfl) rfl rfl (Nat.le_of_ble_eq_true rfl) he h
theorem B0_34 {ev : xV} {Q : Option Value → xM → Prop} {sz sl : Nat} {K L : Nat → Nat} {κ : Nat → Nat → Int32} {ρ : Nat → Nat → Nat} {a0 b0 b1 : Nat} (h : (K b1 = 12) ∧ (¬ b0 = 0) ∧ (∃ sz' sl' K' L' κ' ρ', ev 4 [.ref sz] (Mm (sz + 1) (sl + 8) (va_up K sz 4) (va_up L sz 8) (Z0 κ sz) (ZR (UR ρ b1 2 b0) sz)) none (Mm sz' sl' K' L' κ' ρ') ∧ wpE (xT 0) ev Q (45, [(0, .ref a0)], [.ref sz, .ref a0], Mm sz' sl' K' L' κ' ρ'))) : wpE (xT 0) ev Q (34, [(0, .ref a0)], [.ref b0, .ref b1], Mm sz sl K L κ ρ) := by
  obtain ⟨g1, h⟩ := h
  obtain ⟨g2, h⟩ := h
  refine p_putp (cc3 c0_34) g1 g2 mm_xpp ?_
  refine p_ald (cc3 c0_37) rfl ?_
  refine p_new (cc3 c0_38) mm_new ?_
  refine p_dup (cc3 c0_41) rfl ?_
  obtain ⟨sz', sl', K', L', κ', ρ', he, h⟩ := h
  exact p_callI (cc3 c0_42) (Nat.le_of_ble_eq_true rfl) rfl rfl (Nat.le_of_ble_eq_true rfl) he h
theorem B0_45 {ev : xV} {Q : Option Value → xM → Prop} {sz sl : Nat} {K L : Nat → Nat} {κ : Nat → Nat → Int32} {ρ : Nat → Nat → Nat} {a0 b0 b1 : Nat} (h : (K b1 = 12) ∧ (¬ b0 = 0) ∧ (∃ sz' sl' K' L' κ' ρ', ev 5 [.ref sz] (Mm (sz + 1) (sl + 6) (va_up K sz 2) (va_up L sz 6) (Z0 κ sz) (ZR (UR ρ b1 3 b0) sz)) none (Mm sz' sl' K' L' κ' ρ') ∧ wpE (xT 0) ev Q (56, [(0, .ref a0)], [.ref sz, .ref a0], Mm sz' sl' K' L' κ' ρ'))) : wpE (xT 0) ev Q (45, [(0, .ref a0)], [.ref b0, .ref b1], Mm sz sl K L κ ρ) := by
  obtain ⟨g1, h⟩ := h
  obtain ⟨g2, h⟩ := h
  refine p_putp (cc3 c0_45) g1 g2 mm_xpp ?_
  refine p_ald (cc3 c0_48) rfl ?_
  refine p_new (cc3 c0_49) mm_new ?_
  refine p_dup (cc3 c0_52) rfl ?_
  obtain ⟨sz', sl', K', L', κ', ρ', he, h⟩ := h
  exact p_callI (cc3 c0_53) (Nat.le_of_ble_eq_true rfl) rfl rfl (Nat.le_of_ble_eq_true rfl) he h
theorem B0_56 {ev : xV} {Q : Option Value → xM → Prop} {sz sl : Nat} {K L : Nat → Nat} {κ : Nat → Nat → Int32} {ρ : Nat → Nat → Nat} {a0 b0 b1 : Nat} (h : (K b1 = 12) ∧ (¬ b0 = 0) ∧ ((va_up K sz 23) a0 = 12) ∧ (¬ sz = 0) ∧ ((va_up (va_up K sz 23) (sz + 1) 24) a0 = 12) ∧ (¬ (sz + 1) = 0) ∧ ((va_up (va_up (va_up K sz 23) (sz + 1) 24) ((sz + 1) + 1) 25) a0 = 12) ∧ (¬ ((sz + 1) + 1) = 0) ∧ ((va_up (va_up (va_up (va_up K sz 23) (sz + 1) 24) ((sz + 1) + 1) 25) (((sz + 1) + 1) + 1) 26) a0 = 12) ∧ (¬ (((sz + 1) + 1) + 1) = 0) ∧ ((va_up (va_up (va_up (va_up (va_up K sz 23) (sz + 1) 24) ((sz + 1) + 1) 25) (((sz + 1) + 1) + 1) 26) ((((sz + 1) + 1) + 1) + 1) 27) a0 = 12) ∧ (¬ ((((sz + 1) + 1) + 1) + 1) = 0) ∧ wpE (xT 0) ev Q (103, [(0, .ref a0), (1, .int 0)], [], Mm (((((sz + 1) + 1) + 1) + 1) + 1) (((((sl + 4) + 4) + 8) + 6) + 4) (va_up (va_up (va_up (va_up (va_up K sz 23) (sz + 1) 24) ((sz + 1) + 1) 25) (((sz + 1) + 1) + 1) 26) ((((sz + 1) + 1) + 1) + 1) 27) (va_up (va_up (va_up (va_up (va_up L sz 4) (sz + 1) 4) ((sz + 1) + 1) 8) (((sz + 1) + 1) + 1) 6) ((((sz + 1) + 1) + 1) + 1) 4) (Z0 (Z0 (Z0 (Z0 (Z0 κ sz) (sz + 1)) ((sz + 1) + 1)) (((sz + 1) + 1) + 1)) ((((sz + 1) + 1) + 1) + 1)) (UR (ZR (UR (ZR (UR (ZR (UR (ZR (UR (ZR (UR ρ b1 4 b0) sz) a0 5 sz) (sz + 1)) a0 6 (sz + 1)) ((sz + 1) + 1)) a0 7 ((sz + 1) + 1)) (((sz + 1) + 1) + 1)) a0 8 (((sz + 1) + 1) + 1)) ((((sz + 1) + 1) + 1) + 1)) a0 9 ((((sz + 1) + 1) + 1) + 1)))) : wpE (xT 0) ev Q (56, [(0, .ref a0)], [.ref b0, .ref b1], Mm sz sl K L κ ρ) := by
  obtain ⟨g1, h⟩ := h
  obtain ⟨g2, h⟩ := h
  refine p_putp (cc3 c0_56) g1 g2 mm_xpp ?_
  refine p_ald (cc3 c0_59) rfl ?_
  refine p_push (cc3 c0_60) ?_
  refine p_newa (N := 4) (cc3 c0_61) (by decide) (by decide) (by decide) mm_new ?_
  obtain ⟨g3, h⟩ := h
  obtain ⟨g4, h⟩ := h
  refine p_putp (cc3 c0_64) g3 g4 mm_xpp ?_
  refine p_ald (cc3 c0_67) rfl ?_
  refine p_push (cc3 c0_68) ?_
  refine p_newa (N := 4) (cc3 c0_69) (by decide) (by decide) (by decide) mm_new ?_
  obtain ⟨g5, h⟩ := h
  obtain ⟨g6, h⟩ := h
  refine p_putp (cc3 c0_72) g5 g6 mm_xpp ?_
  refine p_ald (cc3 c0_75) rfl ?_
  refine p_push (cc3 c0_76) ?_
  refine p_newa (N := 8) (cc3 c0_78) (by decide) (by decide) (by decide) mm_new ?_
  obtain ⟨g7, h⟩ := h
  obtain ⟨g8, h⟩ := h
  refine p_putp (cc3 c0_81) g7 g8 mm_xpp ?_
  refine p_ald (cc3 c0_84) rfl ?_
  refine p_push (cc3 c0_85) ?_
  refine p_newa (N := 6) (cc3 c0_87) (by decide) (by decide) (by decide) mm_new ?_
  obtain ⟨g9, h⟩ := h
  obtain ⟨g10, h⟩ := h
  refine p_putp (cc3 c0_90) g9 g10 mm_xpp ?_
  refine p_ald (cc3 c0_93) rfl ?_
  refine p_push (cc3 c0_94) ?_
  refine p_newa (N := 4) (cc3 c0_95) (by decide) (by decide) (by decide) mm_new ?_
  obtain ⟨g11, h⟩ := h
  obtain ⟨g12, h⟩ := h
  refine p_putp (cc3 c0_98) g11 g12 mm_xpp ?_
  refine p_push (cc3 c0_101) ?_
  refine p_ist (ls' := [(1, .int 0), (0, .ref a0)]) (cc3 c0_102) (by decide) rfl ?_
  exact p_lc (ls' := [(0, .ref a0), (1, .int 0)]) c0_103 rfl rfl h
theorem B0_103 {ev : xV} {Q : Option Value → xM → Prop} {sz sl : Nat} {K L : Nat → Nat} {κ : Nat → Nat → Int32} {ρ : Nat → Nat → Nat} {x1 : Int32} {a0 : Nat} (h : ((4 ≤ x1) → wpE (xT 0) ev Q (129, [(0, .ref a0), (1, .int 0)], [], Mm sz sl K L κ ρ)) ∧ (¬ (4 ≤ x1) → (K a0 = 12) ∧ (¬ ρ a0 9 = 0) ∧ (∃ sz' sl' K' L' κ' ρ', ev 7 [.ref sz] (Mm (sz + 1) (sl + 3) (va_up K sz 8) (va_up L sz 3) (Z0 κ sz) (ZR ρ sz)) none (Mm sz' sl' K' L' κ' ρ') ∧ wpE (xT 0) ev Q (120, [(0, .ref a0), (1, .int x1)], [.ref sz, .int x1, .ref (ρ a0 9)], Mm sz' sl' K' L' κ' ρ')))) : wpE (xT 0) ev Q (103, [(0, .ref a0), (1, .int x1)], [], Mm sz sl K L κ ρ) := by
  refine p_ild (cct c0_103 rfl) rfl ?_
  refine p_push (cc3 c0_104) ?_
  refine p_icmp (cc3 c0_105) (fun c => ?_) (fun c => ?_)
  · have h := h.1 c
    refine p_push (cc3 c0_127) ?_
    refine p_ist (ls' := [(1, .int 0), (0, .ref a0)]) (cc3 c0_128) (by decide) rfl ?_
    exact p_lc (ls' := [(0, .ref a0), (1, .int 0)]) c0_129 rfl rfl h
  · have h := h.2 c
    refine p_ald (cc3 c0_108) rfl ?_
    obtain ⟨g1, h⟩ := h
    obtain ⟨g2, h⟩ := h
    refine p_getp (cc3 c0_109) g1 rfl g2 ?_
    refine p_ild (cc3 c0_112) rfl ?_
    refine p_new (cc3 c0_113) mm_new ?_
    refine p_dup (cc3 c0_116) rfl ?_
    obtain ⟨sz', sl', K', L', κ', ρ', he, h⟩ := h
    exact p_callI (cc3 c0_117) (Nat.le_of_ble_eq_true rfl) rfl rfl (Nat.le_of_ble_eq_true rfl) he h
theorem B0_120 {ev : xV} {Q : Option Value → xM → Prop} {sz sl : Nat} {K L : Nat → Nat} {κ : Nat → Nat → Int32} {ρ : Nat → Nat → Nat} {x1 s1 : Int32} {a0 b0 b2 : Nat} (h : (K b2 = 27) ∧ (vp_in s1 (L b2)) ∧ (K b0 = 8) ∧ (¬ b0 = 0) ∧ wpE (xT 0) ev Q (103, [(0, .ref a0), (1, .int (x1 + 1))], [], Mm sz sl K L κ (UR ρ b2 s1.toNatClampNeg b0))) : wpE (xT 0) ev Q (120, [(0, .ref a0), (1, .int x1)], [.ref b0, .int s1, .ref b2], Mm sz sl K L κ ρ) := by
  obtain ⟨g1, h⟩ := h
  obtain ⟨g2, h⟩ := h
  obtain ⟨g3, h⟩ := h
  obtain ⟨g4, h⟩ := h
  refine p_astp (cc3 c0_120) g1 g2 g3 g4 mm_xpp ?_
  refine p_iinc (y := x1 + 1) (ls' := [(1, .int (x1 + 1)), (0, .ref a0)]) (cc3 c0_121) (by decide) rfl rfl rfl ?_
  refine p_goto (cc3 c0_124) ?_
  exact p_lc (ls' := [(0, .ref a0), (1, .int (x1 + 1))]) c0_103 rfl rfl h
theorem B0_129 {ev : xV} {Q : Option Value → xM → Prop} {sz sl : Nat} {K L : Nat → Nat} {κ : Nat → Nat → Int32} {ρ : Nat → Nat → Nat} {x1 : Int32} {a0 : Nat} (h : ∃ z0, (ρ 0 0 = z0 + 1) ∧ ((K z0 = 41 ∨ K z0 = 43) ∧ ∃ r κ' ρ', ev 8 [.ref z0] (Mm sz sl K L κ ρ) (some (.int r)) (Mm sz sl K L κ' ρ') ∧ wpE (xT 0) ev Q (135, [(0, .ref a0), (1, .int x1)], [.int r, .int x1], Mm sz sl K L κ' ρ'))) : wpE (xT 0) ev Q (129, [(0, .ref a0), (1, .int x1)], [], Mm sz sl K L κ ρ) := by
  refine p_ild (cct c0_129 rfl) rfl ?_
  obtain ⟨z0, g, h⟩ := h
  refine p_gref (cc3 c0_130) g ?_
  obtain ⟨g1, h⟩ := h
  obtain ⟨r, κ', ρ', he, h⟩ := h
  exact p_callW (cc3 c0_132) (Nat.le_of_ble_eq_true rfl) rfl rfl (Nat.le_of_ble_eq_true rfl) g1 he h
theorem B0_135 {ev : xV} {Q : Option Value → xM → Prop} {sz sl : Nat} {K L : Nat → Nat} {κ : Nat → Nat → Int32} {ρ : Nat → Nat → Nat} {x1 s0 s1 : Int32} {a0 : Nat} (h : ((s0 ≤ s1) → (K a0 = 12) ∧ (¬ ρ a0 2 = 0) ∧ (¬ ρ a0 0 = 0) ∧ ((K (ρ a0 2) = 11) ∧ ∃ r κ' ρ', ev 16 [.ref (ρ a0 2), .ref (ρ a0 0)] (Mm sz sl K L κ ρ) (some (.int r)) (Mm sz sl K L κ' ρ') ∧ wpE (xT 0) ev Q (168, [(0, .ref a0), (1, .int x1)], [.int r], Mm sz sl K L κ' ρ'))) ∧ (¬ (s0 ≤ s1) → (K a0 = 12) ∧ (¬ ρ a0 0 = 0) ∧ ∃ z0, (ρ 0 0 = z0 + 1) ∧ ((K z0 = 41 ∨ K z0 = 43) ∧ ∃ r κ' ρ', ev 10 [.ref z0, .int x1] (Mm sz sl K L κ ρ) (some (.int r)) (Mm sz sl K L κ' ρ') ∧ wpE (xT 0) ev Q (148, [(0, .ref a0), (1, .int x1)], [.int r, .ref (ρ a0 0)], Mm sz sl K L κ' ρ')))) : wpE (xT 0) ev Q (135, [(0, .ref a0), (1, .int x1)], [.int s0, .int s1], Mm sz sl K L κ ρ) := by
  refine p_icmp (cc3 c0_135) (fun c => ?_) (fun c => ?_)
  · have h := h.1 c
    refine p_ald (cc3 c0_157) rfl ?_
    obtain ⟨g1, h⟩ := h
    obtain ⟨g2, h⟩ := h
    refine p_getp (cc3 c0_158) g1 rfl g2 ?_
    refine p_ald (cc3 c0_161) rfl ?_
    obtain ⟨g3, h⟩ := h
    refine p_getp (cc3 c0_162) g1 rfl g3 ?_
    obtain ⟨g4, h⟩ := h
    obtain ⟨r, κ', ρ', he, h⟩ := h
    exact p_callV (cc3 c0_165) (Nat.le_of_ble_eq_true rfl) rfl rfl (Nat.le_of_ble_eq_true rfl) g4 he h
  · have h := h.2 c
    refine p_ald (cc3 c0_138) rfl ?_
    obtain ⟨g1, h⟩ := h
    obtain ⟨g2, h⟩ := h
    refine p_getp (cc3 c0_139) g1 rfl g2 ?_
    obtain ⟨z0, g, h⟩ := h
    refine p_gref (cc3 c0_142) g ?_
    refine p_ild (cc3 c0_144) rfl ?_
    obtain ⟨g3, h⟩ := h
    obtain ⟨r, κ', ρ', he, h⟩ := h
    exact p_callW (cc3 c0_145) (Nat.le_of_ble_eq_true rfl) rfl rfl (Nat.le_of_ble_eq_true rfl) g3 he h
theorem B0_148 {ev : xV} {Q : Option Value → xM → Prop} {sz sl : Nat} {K L : Nat → Nat} {κ : Nat → Nat → Int32} {ρ : Nat → Nat → Nat} {x1 s0 : Int32} {a0 b1 : Nat} (h : ((K b1 = 9) ∧ ∃ κ' ρ', ev 15 [.ref b1, .int s0] (Mm sz sl K L κ ρ) none (Mm sz sl K L κ' ρ') ∧ wpE (xT 0) ev Q (151, [(0, .ref a0), (1, .int x1)], [], Mm sz sl K L κ' ρ'))) : wpE (xT 0) ev Q (148, [(0, .ref a0), (1, .int x1)], [.int s0, .ref b1], Mm sz sl K L κ ρ) := by
  obtain ⟨g1, h⟩ := h
  obtain ⟨κ', ρ', he, h⟩ := h
  exact p_callV (cc3 c0_148) (Nat.le_of_ble_eq_true rfl) rfl rfl (Nat.le_of_ble_eq_true rfl) g1 he h
theorem B0_151 {ev : xV} {Q : Option Value → xM → Prop} {sz sl : Nat} {K L : Nat → Nat} {κ : Nat → Nat → Int32} {ρ : Nat → Nat → Nat} {x1 : Int32} {a0 : Nat} (h : wpE (xT 0) ev Q (129, [(0, .ref a0), (1, .int (x1 + 1))], [], Mm sz sl K L κ ρ)) : wpE (xT 0) ev Q (151, [(0, .ref a0), (1, .int x1)], [], Mm sz sl K L κ ρ) := by
  refine p_iinc (y := x1 + 1) (ls' := [(1, .int (x1 + 1)), (0, .ref a0)]) (cc3 c0_151) (by decide) rfl rfl rfl ?_
  refine p_goto (cc3 c0_154) ?_
  exact p_lc (ls' := [(0, .ref a0), (1, .int (x1 + 1))]) c0_129 rfl rfl h
theorem B0_168 {ev : xV} {Q : Option Value → xM → Prop} {sz sl : Nat} {K L : Nat → Nat} {κ : Nat → Nat → Int32} {ρ : Nat → Nat → Nat} {x1 s0 : Int32} {a0 : Nat} (h : (K a0 = 12) ∧ (¬ ρ a0 8 = 0) ∧ ((va_up K sz 10) a0 = 12) ∧ (¬ (ZR ρ sz) a0 2 = 0) ∧ (∃ sz' sl' K' L' κ' ρ', ev 34 [.ref sz, .ref ((ZR ρ sz) a0 2)] (Mm (sz + 1) (sl + 4) (va_up K sz 10) (va_up L sz 4) (Z0 κ sz) (ZR ρ sz)) none (Mm sz' sl' K' L' κ' ρ') ∧ wpE (xT 0) ev Q (185, [(0, .ref a0), (1, .int x1)], [.ref sz, .int 0, .ref (ρ a0 8)], Mm sz' sl' K' L' κ' ρ'))) : wpE (xT 0) ev Q (168, [(0, .ref a0), (1, .int x1)], [.int s0], Mm sz sl K L κ ρ) := by
  refine p_pop (cc3 c0_168) rfl ?_
  refine p_ald (cc3 c0_169) rfl ?_
  obtain ⟨g1, h⟩ := h
  obtain ⟨g2, h⟩ := h
  refine p_getp (cc3 c0_170) g1 rfl g2 ?_
  refine p_push (cc3 c0_173) ?_
  refine p_new (cc3 c0_174) mm_new ?_
  refine p_dup (cc3 c0_177) rfl ?_
  refine p_ald (cc3 c0_178) rfl ?_
  obtain ⟨g3, h⟩ := h
  obtain ⟨g4, h⟩ := h
  refine p_getp (cc3 c0_179) g3 rfl g4 ?_
  obtain ⟨sz', sl', K', L', κ', ρ', he, h⟩ := h
  exact p_callI (cc3 c0_182) (Nat.le_of_ble_eq_true rfl) rfl rfl (Nat.le_of_ble_eq_true rfl) he h
theorem B0_185 {ev : xV} {Q : Option Value → xM → Prop} {sz sl : Nat} {K L : Nat → Nat} {κ : Nat → Nat → Int32} {ρ : Nat → Nat → Nat} {x1 s1 : Int32} {a0 b0 b2 : Nat} (h : (K b2 = 26) ∧ (vp_in s1 (L b2)) ∧ (K b0 = 10) ∧ (¬ b0 = 0) ∧ (K a0 = 12) ∧ (¬ (UR ρ b2 s1.toNatClampNeg b0) a0 0 = 0) ∧ (K ((UR ρ b2 s1.toNatClampNeg b0) a0 0) = 9) ∧ Q none (Mm sz sl K L (U (U κ a0 13 1) ((UR ρ b2 s1.toNatClampNeg b0) a0 0) 1 0) (UR ρ b2 s1.toNatClampNeg b0))) : wpE (xT 0) ev Q (185, [(0, .ref a0), (1, .int x1)], [.ref b0, .int s1, .ref b2], Mm sz sl K L κ ρ) := by
  obtain ⟨g1, h⟩ := h
  obtain ⟨g2, h⟩ := h
  obtain ⟨g3, h⟩ := h
  obtain ⟨g4, h⟩ := h
  refine p_astp (cc3 c0_185) g1 g2 g3 g4 mm_xpp ?_
  refine p_ald (cc3 c0_186) rfl ?_
  refine p_push (cc3 c0_187) ?_
  obtain ⟨g5, h⟩ := h
  refine p_puti (cc3 c0_188) g5 mm_xpi ?_
  refine p_ald (cc3 c0_191) rfl ?_
  obtain ⟨g6, h⟩ := h
  refine p_getp (cc3 c0_192) g5 rfl g6 ?_
  refine p_push (cc3 c0_195) ?_
  obtain ⟨g7, h⟩ := h
  refine p_puti (cc3 c0_196) g7 mm_xpi ?_
  exact p_rv (cc3 c0_199) h
theorem B1_0 {ev : xV} {Q : Option Value → xM → Prop} {sz sl : Nat} {K L : Nat → Nat} {κ : Nat → Nat → Int32} {ρ : Nat → Nat → Nat} {a0 : Nat} (h : ((va_up K sz 20) a0 = 9) ∧ (¬ sz = 0) ∧ Q none (Mm (sz + 1) (sl + 160) (va_up K sz 20) (va_up L sz 160) (Z0 κ sz) (UR (ZR ρ sz) a0 0 sz))) : wpE (xT 1) ev Q (0, [(0, .ref a0)], [], Mm sz sl K L κ ρ) := by
  refine p_ald (cc3 c1_0) rfl ?_
  refine p_obj (cc3 c1_1) (Nat.le_of_ble_eq_true rfl) ?_
  refine p_ald (cc3 c1_4) rfl ?_
  refine p_push (cc3 c1_5) ?_
  refine p_newa (N := 160) (cc3 c1_8) (by decide) (by decide) (by decide) mm_new ?_
  obtain ⟨g1, h⟩ := h
  obtain ⟨g2, h⟩ := h
  refine p_putp (cc3 c1_10) g1 g2 mm_xpp ?_
  exact p_rv (cc3 c1_13) h
theorem B2_0 {ev : xV} {Q : Option Value → xM → Prop} {sz sl : Nat} {K L : Nat → Nat} {κ : Nat → Nat → Int32} {ρ : Nat → Nat → Nat} {a0 : Nat} (h : ((va_up K sz 20) a0 = 7) ∧ (¬ sz = 0) ∧ ((va_up (va_up K sz 20) (sz + 1) 20) a0 = 7) ∧ (¬ (sz + 1) = 0) ∧ Q none (Mm ((sz + 1) + 1) ((sl + 10) + 10) (va_up (va_up K sz 20) (sz + 1) 20) (va_up (va_up L sz 10) (sz + 1) 10) (Z0 (Z0 κ sz) (sz + 1)) (UR (ZR (UR (ZR ρ sz) a0 0 sz) (sz + 1)) a0 1 (sz + 1)))) : wpE (xT 2) ev Q (0, [(0, .ref a0)], [], Mm sz sl K L κ ρ) := by
  refine p_ald (cc3 c2_0) rfl ?_
  refine p_obj (cc3 c2_1) (Nat.le_of_ble_eq_true rfl) ?_
  refine p_ald (cc3 c2_4) rfl ?_
  refine p_push (cc3 c2_5) ?_
  refine p_newa (N := 10) (cc3 c2_7) (by decide) (by decide) (by decide) mm_new ?_
  obtain ⟨g1, h⟩ := h
  obtain ⟨g2, h⟩ := h
  refine p_putp (cc3 c2_9) g1 g2 mm_xpp ?_
  refine p_ald (cc3 c2_12) rfl ?_
  refine p_push (cc3 c2_13) ?_
  refine p_newa (N := 10) (cc3 c2_15) (by decide) (by decide) (by decide) mm_new ?_
  obtain ⟨g3, h⟩ := h
  obtain ⟨g4, h⟩ := h
  refine p_putp (cc3 c2_17) g3 g4 mm_xpp ?_
  exact p_rv (cc3 c2_20) h
theorem B3_0 {ev : xV} {Q : Option Value → xM → Prop} {sz sl : Nat} {K L : Nat → Nat} {κ : Nat → Nat → Int32} {ρ : Nat → Nat → Nat} {a0 : Nat} (h : ((va_up K sz 20) a0 = 11) ∧ (¬ sz = 0) ∧ Q none (Mm (sz + 1) (sl + 160) (va_up K sz 20) (va_up L sz 160) (Z0 κ sz) (UR (ZR ρ sz) a0 0 sz))) : wpE (xT 3) ev Q (0, [(0, .ref a0)], [], Mm sz sl K L κ ρ) := by
  refine p_ald (cc3 c3_0) rfl ?_
  refine p_obj (cc3 c3_1) (Nat.le_of_ble_eq_true rfl) ?_
  refine p_ald (cc3 c3_4) rfl ?_
  refine p_push (cc3 c3_5) ?_
  refine p_newa (N := 160) (cc3 c3_8) (by decide) (by decide) (by decide) mm_new ?_
  obtain ⟨g1, h⟩ := h
  obtain ⟨g2, h⟩ := h
  refine p_putp (cc3 c3_10) g1 g2 mm_xpp ?_
  exact p_rv (cc3 c3_13) h
theorem B4_0 {ev : xV} {Q : Option Value → xM → Prop} {sz sl : Nat} {K L : Nat → Nat} {κ : Nat → Nat → Int32} {ρ : Nat → Nat → Nat} {a0 : Nat} (h : ((va_up K sz 20) a0 = 4) ∧ (¬ sz = 0) ∧ ((va_up (va_up K sz 20) (sz + 1) 20) a0 = 4) ∧ (¬ (sz + 1) = 0) ∧ Q none (Mm ((sz + 1) + 1) ((sl + 5064) + 24) (va_up (va_up K sz 20) (sz + 1) 20) (va_up (va_up L sz 5064) (sz + 1) 24) (Z0 (Z0 κ sz) (sz + 1)) (UR (ZR (UR (ZR ρ sz) a0 0 sz) (sz + 1)) a0 1 (sz + 1)))) : wpE (xT 4) ev Q (0, [(0, .ref a0)], [], Mm sz sl K L κ ρ) := by
  refine p_ald (cc3 c4_0) rfl ?_
  refine p_obj (cc3 c4_1) (Nat.le_of_ble_eq_true rfl) ?_
  refine p_ald (cc3 c4_4) rfl ?_
  refine p_push (cc3 c4_5) ?_
  refine p_newa (N := 5064) (cc3 c4_8) (by decide) (by decide) (by decide) mm_new ?_
  obtain ⟨g1, h⟩ := h
  obtain ⟨g2, h⟩ := h
  refine p_putp (cc3 c4_10) g1 g2 mm_xpp ?_
  refine p_ald (cc3 c4_13) rfl ?_
  refine p_push (cc3 c4_14) ?_
  refine p_newa (N := 24) (cc3 c4_16) (by decide) (by decide) (by decide) mm_new ?_
  obtain ⟨g3, h⟩ := h
  obtain ⟨g4, h⟩ := h
  refine p_putp (cc3 c4_18) g3 g4 mm_xpp ?_
  exact p_rv (cc3 c4_21) h
theorem B5_0 {ev : xV} {Q : Option Value → xM → Prop} {sz sl : Nat} {K L : Nat → Nat} {κ : Nat → Nat → Int32} {ρ : Nat → Nat → Nat} {a0 : Nat} (h : ((va_up K sz 20) a0 = 2) ∧ (¬ sz = 0) ∧ ((va_up (va_up K sz 20) (sz + 1) 20) a0 = 2) ∧ (¬ (sz + 1) = 0) ∧ ((va_up (va_up (va_up K sz 20) (sz + 1) 20) ((sz + 1) + 1) 20) a0 = 2) ∧ (¬ ((sz + 1) + 1) = 0) ∧ ((va_up (va_up (va_up (va_up K sz 20) (sz + 1) 20) ((sz + 1) + 1) 20) (((sz + 1) + 1) + 1) 20) a0 = 2) ∧ (¬ (((sz + 1) + 1) + 1) = 0) ∧ (¬ (UR (ZR (UR (ZR (UR (ZR (UR (ZR ρ sz) a0 0 sz) (sz + 1)) a0 1 (sz + 1)) ((sz + 1) + 1)) a0 2 ((sz + 1) + 1)) (((sz + 1) + 1) + 1)) a0 3 (((sz + 1) + 1) + 1)) a0 2 = 0) ∧ (∃ κ' ρ', ev 6 [.ref ((UR (ZR (UR (ZR (UR (ZR (UR (ZR ρ sz) a0 0 sz) (sz + 1)) a0 1 (sz + 1)) ((sz + 1) + 1)) a0 2 ((sz + 1) + 1)) (((sz + 1) + 1) + 1)) a0 3 (((sz + 1) + 1) + 1)) a0 2), .int ((-1))] (Mm ((((sz + 1) + 1) + 1) + 1) ((((sl + 8) + 4) + 8) + 8) (va_up (va_up (va_up (va_up K sz 20) (sz + 1) 20) ((sz + 1) + 1) 20) (((sz + 1) + 1) + 1) 20) (va_up (va_up (va_up (va_up L sz 8) (sz + 1) 4) ((sz + 1) + 1) 8) (((sz + 1) + 1) + 1) 8) (Z0 (Z0 (Z0 (Z0 κ sz) (sz + 1)) ((sz + 1) + 1)) (((sz + 1) + 1) + 1)) (UR (ZR (UR (ZR (UR (ZR (UR (ZR ρ sz) a0 0 sz) (sz + 1)) a0 1 (sz + 1)) ((sz + 1) + 1)) a0 2 ((sz + 1) + 1)) (((sz + 1) + 1) + 1)) a0 3 (((sz + 1) + 1) + 1))) none (Mm ((((sz + 1) + 1) + 1) + 1) ((((sl + 8) + 4) + 8) + 8) (va_up (va_up (va_up (va_up K sz 20) (sz + 1) 20) ((sz + 1) + 1) 20) (((sz + 1) + 1) + 1) 20) (va_up (va_up (va_up (va_up L sz 8) (sz + 1) 4) ((sz + 1) + 1) 8) (((sz + 1) + 1) + 1) 8) κ' ρ') ∧ wpE (xT 5) ev Q (43, [(0, .ref a0)], [], Mm ((((sz + 1) + 1) + 1) + 1) ((((sl + 8) + 4) + 8) + 8) (va_up (va_up (va_up (va_up K sz 20) (sz + 1) 20) ((sz + 1) + 1) 20) (((sz + 1) + 1) + 1) 20) (va_up (va_up (va_up (va_up L sz 8) (sz + 1) 4) ((sz + 1) + 1) 8) (((sz + 1) + 1) + 1) 8) κ' ρ'))) : wpE (xT 5) ev Q (0, [(0, .ref a0)], [], Mm sz sl K L κ ρ) := by
  refine p_ald (cc3 c5_0) rfl ?_
  refine p_obj (cc3 c5_1) (Nat.le_of_ble_eq_true rfl) ?_
  refine p_ald (cc3 c5_4) rfl ?_
  refine p_push (cc3 c5_5) ?_
  refine p_newa (N := 8) (cc3 c5_7) (by decide) (by decide) (by decide) mm_new ?_
  obtain ⟨g1, h⟩ := h
  obtain ⟨g2, h⟩ := h
  refine p_putp (cc3 c5_9) g1 g2 mm_xpp ?_
  refine p_ald (cc3 c5_12) rfl ?_
  refine p_push (cc3 c5_13) ?_
  refine p_newa (N := 4) (cc3 c5_14) (by decide) (by decide) (by decide) mm_new ?_
  obtain ⟨g3, h⟩ := h
  obtain ⟨g4, h⟩ := h
  refine p_putp (cc3 c5_16) g3 g4 mm_xpp ?_
  refine p_ald (cc3 c5_19) rfl ?_
  refine p_push (cc3 c5_20) ?_
  refine p_newa (N := 8) (cc3 c5_22) (by decide) (by decide) (by decide) mm_new ?_
  obtain ⟨g5, h⟩ := h
  obtain ⟨g6, h⟩ := h
  refine p_putp (cc3 c5_24) g5 g6 mm_xpp ?_
  refine p_ald (cc3 c5_27) rfl ?_
  refine p_push (cc3 c5_28) ?_
  refine p_newa (N := 8) (cc3 c5_30) (by decide) (by decide) (by decide) mm_new ?_
  obtain ⟨g7, h⟩ := h
  obtain ⟨g8, h⟩ := h
  refine p_putp (cc3 c5_32) g7 g8 mm_xpp ?_
  refine p_ald (cc3 c5_35) rfl ?_
  obtain ⟨g9, h⟩ := h
  refine p_getp (cc3 c5_36) g7 rfl g9 ?_
  refine p_push (cc3 c5_39) ?_
  obtain ⟨κ', ρ', he, h⟩ := h
  exact p_callS (cc3 c5_40) (Nat.le_of_ble_eq_true rfl) rfl rfl (Nat.le_of_ble_eq_true rfl) he h
theorem B5_43 {ev : xV} {Q : Option Value → xM → Prop} {sz sl : Nat} {K L : Nat → Nat} {κ : Nat → Nat → Int32} {ρ : Nat → Nat → Nat} {a0 : Nat} (h : Q none (Mm sz sl K L κ ρ)) : wpE (xT 5) ev Q (43, [(0, .ref a0)], [], Mm sz sl K L κ ρ) := by
  exact p_rv (cc3 c5_43) h
theorem B6_0 {ev : xV} {Q : Option Value → xM → Prop} {sz sl : Nat} {K L : Nat → Nat} {κ : Nat → Nat → Int32} {ρ : Nat → Nat → Nat} {x1 : Int32} {a0 : Nat} (h : (K a0 = 20) ∧ wpE (xT 6) ev Q (5, [(0, .ref a0), (1, .int x1), (2, .int 0), (3, .int (Int32.ofNat (L a0)))], [], Mm sz sl K L κ ρ)) : wpE (xT 6) ev Q (0, [(0, .ref a0), (1, .int x1)], [], Mm sz sl K L κ ρ) := by
  refine p_push (cc3 c6_0) ?_
  refine p_ist (ls' := [(2, .int 0), (0, .ref a0), (1, .int x1)]) (cc3 c6_1) (by decide) rfl ?_
  refine p_ald (cc3 c6_2) rfl ?_
  obtain ⟨g1, h⟩ := h
  refine p_len (cc3 c6_3) g1 rfl ?_
  refine p_ist (ls' := [(3, .int (Int32.ofNat (L a0))), (2, .int 0), (0, .ref a0), (1, .int x1)]) (cc3 c6_4) (by decide) rfl ?_
  exact p_lc (ls' := [(0, .ref a0), (1, .int x1), (2, .int 0), (3, .int (Int32.ofNat (L a0)))]) c6_5 rfl rfl h
theorem B6_5 {ev : xV} {Q : Option Value → xM → Prop} {sz sl : Nat} {K L : Nat → Nat} {κ : Nat → Nat → Int32} {ρ : Nat → Nat → Nat} {x1 x2 x3 : Int32} {a0 : Nat} (h : ((x3 ≤ x2) → Q none (Mm sz sl K L κ ρ)) ∧ (¬ (x3 ≤ x2) → (K a0 = 20) ∧ (vp_in x2 (L a0)) ∧ wpE (xT 6) ev Q (5, [(0, .ref a0), (1, .int x1), (2, .int (x2 + 1)), (3, .int x3)], [], Mm sz sl K L (U κ a0 x2.toNatClampNeg x1) ρ))) : wpE (xT 6) ev Q (5, [(0, .ref a0), (1, .int x1), (2, .int x2), (3, .int x3)], [], Mm sz sl K L κ ρ) := by
  refine p_ild (cct c6_5 rfl) rfl ?_
  refine p_ild (cc3 c6_6) rfl ?_
  refine p_icmp (cc3 c6_7) (fun c => ?_) (fun c => ?_)
  · have h := h.1 c
    exact p_rv (cc3 c6_20) h
  · have h := h.2 c
    refine p_ald (cc3 c6_10) rfl ?_
    refine p_ild (cc3 c6_11) rfl ?_
    refine p_ild (cc3 c6_12) rfl ?_
    obtain ⟨g1, h⟩ := h
    obtain ⟨g2, h⟩ := h
    refine p_asti (cc3 c6_13) g1 g2 mm_xpi ?_
    refine p_iinc (y := x2 + 1) (ls' := [(2, .int (x2 + 1)), (0, .ref a0), (1, .int x1), (3, .int x3)]) (cc3 c6_14) (by decide) rfl rfl rfl ?_
    refine p_goto (cc3 c6_17) ?_
    exact p_lc (ls' := [(0, .ref a0), (1, .int x1), (2, .int (x2 + 1)), (3, .int x3)]) c6_5 rfl rfl h
theorem B7_0 {ev : xV} {Q : Option Value → xM → Prop} {sz sl : Nat} {K L : Nat → Nat} {κ : Nat → Nat → Int32} {ρ : Nat → Nat → Nat} {a0 : Nat} (h : ((va_up K sz 20) a0 = 8) ∧ (¬ sz = 0) ∧ Q none (Mm (sz + 1) (sl + 40) (va_up K sz 20) (va_up L sz 40) (U (Z0 κ sz) a0 1 (-1)) (UR (ZR ρ sz) a0 0 sz))) : wpE (xT 7) ev Q (0, [(0, .ref a0)], [], Mm sz sl K L κ ρ) := by
  refine p_ald (cc3 c7_0) rfl ?_
  refine p_obj (cc3 c7_1) (Nat.le_of_ble_eq_true rfl) ?_
  refine p_ald (cc3 c7_4) rfl ?_
  refine p_push (cc3 c7_5) ?_
  refine p_newa (N := 40) (cc3 c7_7) (by decide) (by decide) (by decide) mm_new ?_
  obtain ⟨g1, h⟩ := h
  obtain ⟨g2, h⟩ := h
  refine p_putp (cc3 c7_9) g1 g2 mm_xpp ?_
  refine p_ald (cc3 c7_12) rfl ?_
  refine p_push (cc3 c7_13) ?_
  refine p_puti (cc3 c7_14) g1 mm_xpi ?_
  exact p_rv (cc3 c7_17) h
theorem B8_0 {ev : xV} {Q : Option Value → xM → Prop} {sz sl : Nat} {K L : Nat → Nat} {κ : Nat → Nat → Int32} {ρ : Nat → Nat → Nat} {a0 : Nat} (h : (K a0 = 41 ∨ K a0 = 43) ∧ (K (ρ a0 30) = 42 ∨ K (ρ a0 30) = 43) ∧ (∃ r κ' ρ', ev 9 [.ref a0] (Mm sz sl K L κ ρ) (some (.int r)) (Mm sz sl K L κ' ρ') ∧ wpE (xT 8) ev Q (9, [(0, .ref a0)], [.int r, .int (Int32.ofNat (L (ρ a0 30)))], Mm sz sl K L κ' ρ'))) : wpE (xT 8) ev Q (0, [(0, .ref a0)], [], Mm sz sl K L κ ρ) := by
  refine p_ald (cc3 c8_0) rfl ?_
  obtain ⟨g1, h⟩ := h
  refine p_getSv (cc3 c8_1) g1 rfl ?_
  obtain ⟨g2, h⟩ := h
  refine p_lenB (cc3 c8_4) g2 rfl ?_
  refine p_ald (cc3 c8_5) rfl ?_
  obtain ⟨r, κ', ρ', he, h⟩ := h
  exact p_callW (cc3 c8_6) (Nat.le_of_ble_eq_true rfl) rfl rfl (Nat.le_of_ble_eq_true rfl) g1 he h
theorem B8_9 {ev : xV} {Q : Option Value → xM → Prop} {sz sl : Nat} {K L : Nat → Nat} {κ : Nat → Nat → Int32} {ρ : Nat → Nat → Nat} {s0 s1 : Int32} {a0 : Nat} (h : Q (some (.int (s1 >>> (s0 &&& 31)))) (Mm sz sl K L κ ρ)) : wpE (xT 8) ev Q (9, [(0, .ref a0)], [.int s0, .int s1], Mm sz sl K L κ ρ) := by
  refine p_bin (cc3 c8_9) ?_
  exact p_ri (cc3 c8_10) trivial h
theorem B9_0 {ev : xV} {Q : Option Value → xM → Prop} {sz sl : Nat} {K L : Nat → Nat} {κ : Nat → Nat → Int32} {ρ : Nat → Nat → Nat} {a0 : Nat} (h : (((1 : Int32) = 0) → ((narrow .byte (.int 1) = .int 1) ∧ Q (some (.int 1)) (Mm sz sl K L κ ρ))) ∧ (¬ ((1 : Int32) = 0) → (K a0 = 41 ∨ K a0 = 43) ∧ ((narrow .byte (.int 0) = .int 0) ∧ Q (some (.int 0)) (Mm sz sl K L κ ρ)))) : wpE (xT 9) ev Q (0, [(0, .ref a0)], [], Mm sz sl K L κ ρ) := by
  refine p_push (cc3 c9_0) ?_
  refine p_if (cc3 c9_3) (fun c => ?_) (fun c => ?_)
  · have h := h.1 c
    refine p_push (cc3 c9_13) ?_
    refine p_lc (ls' := []) c9_14 rfl rfl ?_
    exact p_ri (cct c9_14 rfl) h.1 h.2
  · have h := h.2 c
    refine p_ald (cc3 c9_6) rfl ?_
    obtain ⟨g1, h⟩ := h
    refine p_getSc (cc3 c9_7) g1 ?_
    refine p_goto (cc3 c9_10) ?_
    refine p_lc (ls' := []) c9_14 rfl rfl ?_
    exact p_ri (cct c9_14 rfl) h.1 h.2
theorem B10_0 {ev : xV} {Q : Option Value → xM → Prop} {sz sl : Nat} {K L : Nat → Nat} {κ : Nat → Nat → Int32} {ρ : Nat → Nat → Nat} {x1 : Int32} {a0 : Nat} (h : ((K a0 = 41 ∨ K a0 = 43) ∧ ∃ r κ' ρ', ev 11 [.ref a0] (Mm sz sl K L κ ρ) (some (.int r)) (Mm sz sl K L κ' ρ') ∧ wpE (xT 10) ev Q (4, [(0, .ref a0), (1, .int x1)], [.int r], Mm sz sl K L κ' ρ'))) : wpE (xT 10) ev Q (0, [(0, .ref a0), (1, .int x1)], [], Mm sz sl K L κ ρ) := by
  refine p_ald (cc3 c10_0) rfl ?_
  obtain ⟨g1, h⟩ := h
  obtain ⟨r, κ', ρ', he, h⟩ := h
  exact p_callW (cc3 c10_1) (Nat.le_of_ble_eq_true rfl) rfl rfl (Nat.le_of_ble_eq_true rfl) g1 he h
theorem B10_4 {ev : xV} {Q : Option Value → xM → Prop} {sz sl : Nat} {K L : Nat → Nat} {κ : Nat → Nat → Int32} {ρ : Nat → Nat → Nat} {x1 s0 : Int32} {a0 : Nat} (h : ((s0 = 0) → (K a0 = 41 ∨ K a0 = 43) ∧ False) ∧ (¬ (s0 = 0) → (K a0 = 41 ∨ K a0 = 43) ∧ (∃ r κ' ρ', ev 12 [.ref (ρ a0 30), .int x1] (Mm sz sl K L κ ρ) (some (.int r)) (Mm sz sl K L κ' ρ') ∧ wpE (xT 10) ev Q (15, [(0, .ref a0), (1, .int x1)], [.int r], Mm sz sl K L κ' ρ')))) : wpE (xT 10) ev Q (4, [(0, .ref a0), (1, .int x1)], [.int s0], Mm sz sl K L κ ρ) := by
  refine p_if (cc3 c10_4) (fun c => ?_) (fun c => ?_)
  · have h := h.1 c
    refine p_ald (cc3 c10_16) rfl ?_
    obtain ⟨g1, h⟩ := h
    refine p_getSv (cc3 c10_17) g1 rfl ?_
    refine p_ild (cc3 c10_20) rfl ?_
    exact h.elim
  · have h := h.2 c
    refine p_ald (cc3 c10_7) rfl ?_
    obtain ⟨g1, h⟩ := h
    refine p_getSv (cc3 c10_8) g1 rfl ?_
    refine p_ild (cc3 c10_11) rfl ?_
    obtain ⟨r, κ', ρ', he, h⟩ := h
    exact p_callS (cc3 c10_12) (Nat.le_of_ble_eq_true rfl) rfl rfl (Nat.le_of_ble_eq_true rfl) he h
theorem B10_15 {ev : xV} {Q : Option Value → xM → Prop} {sz sl : Nat} {K L : Nat → Nat} {κ : Nat → Nat → Int32} {ρ : Nat → Nat → Nat} {x1 s0 : Int32} {a0 : Nat} (h : ((narrow .char (.int s0) = .int s0) ∧ Q (some (.int s0)) (Mm sz sl K L κ ρ))) : wpE (xT 10) ev Q (15, [(0, .ref a0), (1, .int x1)], [.int s0], Mm sz sl K L κ ρ) := by
  exact p_ri (cc3 c10_15) h.1 h.2
theorem B11_0 {ev : xV} {Q : Option Value → xM → Prop} {sz sl : Nat} {K L : Nat → Nat} {κ : Nat → Nat → Int32} {ρ : Nat → Nat → Nat} {a0 : Nat} (h : (((1 : Int32) = 0) → Q (some (.int 0)) (Mm sz sl K L κ ρ)) ∧ (¬ ((1 : Int32) = 0) → (K a0 = 41 ∨ K a0 = 43) ∧ (((0 : Int32) = 0) → Q (some (.int 1)) (Mm sz sl K L κ ρ)) ∧ (¬ ((0 : Int32) = 0) → Q (some (.int 0)) (Mm sz sl K L κ ρ)))) : wpE (xT 11) ev Q (0, [(0, .ref a0)], [], Mm sz sl K L κ ρ) := by
  refine p_push (cc3 c11_0) ?_
  refine p_if (cc3 c11_3) (fun c => ?_) (fun c => ?_)
  · have h := h.1 c
    refine p_lc (ls' := []) c11_17 rfl rfl ?_
    refine p_push (cct c11_17 rfl) ?_
    exact p_ri (cct c11_18 rfl) (by decide) h
  · have h := h.2 c
    refine p_ald (cc3 c11_6) rfl ?_
    obtain ⟨g1, h⟩ := h
    refine p_getSc (cc3 c11_7) g1 ?_
    refine p_if (cc3 c11_10) (fun c => ?_) (fun c => ?_)
    · have h := h.1 c
      refine p_push (cc3 c11_13) ?_
      refine p_goto (cc3 c11_14) ?_
      refine p_lc (ls' := []) c11_18 rfl rfl ?_
      exact p_ri (cct c11_18 rfl) (by decide) h
    · have h := h.2 c
      refine p_lc (ls' := []) c11_17 rfl rfl ?_
      refine p_push (cct c11_17 rfl) ?_
      exact p_ri (cct c11_18 rfl) (by decide) h
theorem B12_0 {ev : xV} {Q : Option Value → xM → Prop} {sz sl : Nat} {K L : Nat → Nat} {κ : Nat → Nat → Int32} {ρ : Nat → Nat → Nat} {x1 : Int32} {a0 : Nat} (h : (K a0 = 42 ∨ K a0 = 43) ∧ (∃ κ' ρ', ev 13 [.int x1, .int (Int32.ofNat (L a0))] (Mm sz sl K L κ ρ) none (Mm sz sl K L κ' ρ') ∧ wpE (xT 12) ev Q (6, [(0, .ref a0), (1, .int x1)], [], Mm sz sl K L κ' ρ'))) : wpE (xT 12) ev Q (0, [(0, .ref a0), (1, .int x1)], [], Mm sz sl K L κ ρ) := by
  refine p_ild (cc3 c12_0) rfl ?_
  refine p_ald (cc3 c12_1) rfl ?_
  obtain ⟨g1, h⟩ := h
  refine p_lenB (cc3 c12_2) g1 rfl ?_
  obtain ⟨κ', ρ', he, h⟩ := h
  exact p_callS (cc3 c12_3) (Nat.le_of_ble_eq_true rfl) rfl rfl (Nat.le_of_ble_eq_true rfl) he h
theorem B12_6 {ev : xV} {Q : Option Value → xM → Prop} {sz sl : Nat} {K L : Nat → Nat} {κ : Nat → Nat → Int32} {ρ : Nat → Nat → Nat} {x1 : Int32} {a0 : Nat} (h : (K a0 = 42 ∨ K a0 = 43) ∧ (vp_in x1 (L a0)) ∧ ((narrow .char (.int ((((κ a0 x1.toNatClampNeg) &&& (255 : Int32)).toUInt32 % 65536).toInt32)) = .int ((((κ a0 x1.toNatClampNeg) &&& (255 : Int32)).toUInt32 % 65536).toInt32)) ∧ Q (some (.int ((((κ a0 x1.toNatClampNeg) &&& (255 : Int32)).toUInt32 % 65536).toInt32))) (Mm sz sl K L κ ρ))) : wpE (xT 12) ev Q (6, [(0, .ref a0), (1, .int x1)], [], Mm sz sl K L κ ρ) := by
  refine p_ald (cc3 c12_6) rfl ?_
  refine p_ild (cc3 c12_7) rfl ?_
  obtain ⟨g1, h⟩ := h
  obtain ⟨g2, h⟩ := h
  refine p_aldB (cc3 c12_8) g1 g2 rfl ?_
  refine p_push (cc3 c12_9) ?_
  refine p_bin (cc3 c12_12) ?_
  refine p_un (cc3 c12_13) ?_
  exact p_ri (cc3 c12_14) h.1 h.2
theorem B13_0 {ev : xV} {Q : Option Value → xM → Prop} {sz sl : Nat} {K L : Nat → Nat} {κ : Nat → Nat → Int32} {ρ : Nat → Nat → Nat} {x0 x1 : Int32} (h : (∃ r κ' ρ', ev 14 [.int x0, .int x1, (if ρ 0 21 = 0 then Value.null else Value.ref (ρ 0 21 - 1))] (Mm sz sl K L κ ρ) (some (.int r)) (Mm sz sl K L κ' ρ') ∧ wpE (xT 13) ev Q (8, [(0, .int x0), (1, .int x1)], [.int r], Mm sz sl K L κ' ρ'))) : wpE (xT 13) ev Q (0, [(0, .int x0), (1, .int x1)], [], Mm sz sl K L κ ρ) := by
  refine p_ild (cc3 c13_0) rfl ?_
  refine p_ild (cc3 c13_1) rfl ?_
  refine p_st (cc3 c13_2) ?_
  obtain ⟨r, κ', ρ', he, h⟩ := h
  exact p_callS (cc3 c13_5) (Nat.le_of_ble_eq_true rfl) rfl rfl (Nat.le_of_ble_eq_true rfl) he h
theorem B13_8 {ev : xV} {Q : Option Value → xM → Prop} {sz sl : Nat} {K L : Nat → Nat} {κ : Nat → Nat → Int32} {ρ : Nat → Nat → Nat} {x0 x1 s0 : Int32} (h : Q none (Mm sz sl K L κ ρ)) : wpE (xT 13) ev Q (8, [(0, .int x0), (1, .int x1)], [.int s0], Mm sz sl K L κ ρ) := by
  refine p_pop (cc3 c13_8) rfl ?_
  exact p_rv (cc3 c13_9) h
theorem B14_0 {ev : xV} {Q : Option Value → xM → Prop} {sz sl : Nat} {K L : Nat → Nat} {κ : Nat → Nat → Int32} {ρ : Nat → Nat → Nat} {x0 x1 : Int32} {v2 : Value} (h : ((x0 < 0) → False) ∧ (¬ (x0 < 0) → ((x0 < x1) → Q (some (.int x0)) (Mm sz sl K L κ ρ)) ∧ (¬ (x0 < x1) → False))) : wpE (xT 14) ev Q (0, [(0, .int x0), (1, .int x1), (2, v2)], [], Mm sz sl K L κ ρ) := by
  refine p_ild (cc3 c14_0) rfl ?_
  refine p_if (cc3 c14_1) (fun c => ?_) (fun c => ?_)
  · have h := h.1 c
    exact h.elim
  · have h := h.2 c
    refine p_ild (cc3 c14_4) rfl ?_
    refine p_ild (cc3 c14_5) rfl ?_
    refine p_icmp (cc3 c14_6) (fun c => ?_) (fun c => ?_)
    · have h := h.1 c
      refine p_ild (cc3 c14_16) rfl ?_
      exact p_ri (cc3 c14_17) trivial h
    · have h := h.2 c
      exact h.elim
theorem B15_0 {ev : xV} {Q : Option Value → xM → Prop} {sz sl : Nat} {K L : Nat → Nat} {κ : Nat → Nat → Int32} {ρ : Nat → Nat → Nat} {x1 : Int32} {a0 : Nat} (h : (K a0 = 9) ∧ ((160 ≤ (κ a0 1)) → Q none (Mm sz sl K L κ ρ)) ∧ (¬ (160 ≤ (κ a0 1)) → (¬ ρ a0 0 = 0) ∧ (K (ρ a0 0) = 20) ∧ (vp_in (κ a0 1) (L (ρ a0 0))) ∧ Q none (Mm sz sl K L (U (U κ (ρ a0 0) (κ a0 1).toNatClampNeg x1) a0 1 (((U κ (ρ a0 0) (κ a0 1).toNatClampNeg x1) a0 1) + 1)) ρ))) : wpE (xT 15) ev Q (0, [(0, .ref a0), (1, .int x1)], [], Mm sz sl K L κ ρ) := by
  refine p_ald (cc3 c15_0) rfl ?_
  obtain ⟨g1, h⟩ := h
  refine p_geti (cc3 c15_1) g1 rfl ?_
  refine p_push (cc3 c15_4) ?_
  refine p_icmp (cc3 c15_7) (fun c => ?_) (fun c => ?_)
  · have h := h.1 c
    refine p_lc (ls' := []) c15_30 rfl rfl ?_
    exact p_rv (cct c15_30 rfl) h
  · have h := h.2 c
    refine p_ald (cc3 c15_10) rfl ?_
    obtain ⟨g2, h⟩ := h
    refine p_getp (cc3 c15_11) g1 rfl g2 ?_
    refine p_ald (cc3 c15_14) rfl ?_
    refine p_geti (cc3 c15_15) g1 rfl ?_
    refine p_ild (cc3 c15_18) rfl ?_
    obtain ⟨g3, h⟩ := h
    obtain ⟨g4, h⟩ := h
    refine p_asti (cc3 c15_19) g3 g4 mm_xpi ?_
    refine p_ald (cc3 c15_20) rfl ?_
    refine p_dup (cc3 c15_21) rfl ?_
    refine p_geti (cc3 c15_22) g1 rfl ?_
    refine p_push (cc3 c15_25) ?_
    refine p_bin (cc3 c15_26) ?_
    refine p_puti (cc3 c15_27) g1 mm_xpi ?_
    refine p_lc (ls' := []) c15_30 rfl rfl ?_
    exact p_rv (cct c15_30 rfl) h
theorem B16_0 {ev : xV} {Q : Option Value → xM → Prop} {sz sl : Nat} {K L : Nat → Nat} {κ : Nat → Nat → Int32} {ρ : Nat → Nat → Nat} {a0 a1 : Nat} (h : (K a0 = 11) ∧ (¬ a1 = 0) ∧ (∃ κ' ρ', ev 17 [.ref a0] (Mm sz sl K L (U (U (U κ a0 7 0) a0 8 (-1)) a0 1 0) (UR ρ a0 3 a1)) none (Mm sz sl K L κ' ρ') ∧ wpE (xT 16) ev Q (24, [(0, .ref a0), (1, .ref a1)], [], Mm sz sl K L κ' ρ'))) : wpE (xT 16) ev Q (0, [(0, .ref a0), (1, .ref a1)], [], Mm sz sl K L κ ρ) := by
  refine p_ald (cc3 c16_0) rfl ?_
  refine p_ald (cc3 c16_1) rfl ?_
  obtain ⟨g1, h⟩ := h
  obtain ⟨g2, h⟩ := h
  refine p_putp (cc3 c16_2) g1 g2 mm_xpp ?_
  refine p_ald (cc3 c16_5) rfl ?_
  refine p_push (cc3 c16_6) ?_
  refine p_puti (cc3 c16_7) g1 mm_xpi ?_
  refine p_ald (cc3 c16_10) rfl ?_
  refine p_push (cc3 c16_11) ?_
  refine p_puti (cc3 c16_12) g1 mm_xpi ?_
  refine p_ald (cc3 c16_15) rfl ?_
  refine p_push (cc3 c16_16) ?_
  refine p_puti (cc3 c16_17) g1 mm_xpi ?_
  refine p_ald (cc3 c16_20) rfl ?_
  obtain ⟨κ', ρ', he, h⟩ := h
  exact p_callV (cc3 c16_21) (Nat.le_of_ble_eq_true rfl) rfl rfl (Nat.le_of_ble_eq_true rfl) g1 he h
theorem B16_24 {ev : xV} {Q : Option Value → xM → Prop} {sz sl : Nat} {K L : Nat → Nat} {κ : Nat → Nat → Int32} {ρ : Nat → Nat → Nat} {a0 a1 : Nat} (h : ((K a0 = 11) ∧ ∃ κ' ρ', ev 27 [.ref a0, .int 200] (Mm sz sl K L κ ρ) none (Mm sz sl K L κ' ρ') ∧ wpE (xT 16) ev Q (31, [(0, .ref a0), (1, .ref a1)], [], Mm sz sl K L κ' ρ'))) : wpE (xT 16) ev Q (24, [(0, .ref a0), (1, .ref a1)], [], Mm sz sl K L κ ρ) := by
  refine p_ald (cc3 c16_24) rfl ?_
  refine p_push (cc3 c16_25) ?_
  obtain ⟨g1, h⟩ := h
  obtain ⟨κ', ρ', he, h⟩ := h
  exact p_callV (cc3 c16_28) (Nat.le_of_ble_eq_true rfl) rfl rfl (Nat.le_of_ble_eq_true rfl) g1 he h
theorem B16_31 {ev : xV} {Q : Option Value → xM → Prop} {sz sl : Nat} {K L : Nat → Nat} {κ : Nat → Nat → Int32} {ρ : Nat → Nat → Nat} {a0 a1 : Nat} (h : ((K a0 = 11) ∧ ∃ κ' ρ', ev 29 [.ref a0, .int 0, .int 0] (Mm sz sl K L κ ρ) none (Mm sz sl K L κ' ρ') ∧ wpE (xT 16) ev Q (37, [(0, .ref a0), (1, .ref a1)], [], Mm sz sl K L κ' ρ'))) : wpE (xT 16) ev Q (31, [(0, .ref a0), (1, .ref a1)], [], Mm sz sl K L κ ρ) := by
  refine p_ald (cc3 c16_31) rfl ?_
  refine p_push (cc3 c16_32) ?_
  refine p_push (cc3 c16_33) ?_
  obtain ⟨g1, h⟩ := h
  obtain ⟨κ', ρ', he, h⟩ := h
  exact p_callV (cc3 c16_34) (Nat.le_of_ble_eq_true rfl) rfl rfl (Nat.le_of_ble_eq_true rfl) g1 he h
theorem B16_37 {ev : xV} {Q : Option Value → xM → Prop} {sz sl : Nat} {K L : Nat → Nat} {κ : Nat → Nat → Int32} {ρ : Nat → Nat → Nat} {a0 a1 : Nat} (h : ((K a0 = 11) ∧ ∃ κ' ρ', ev 27 [.ref a0, .int 59] (Mm sz sl K L κ ρ) none (Mm sz sl K L κ' ρ') ∧ wpE (xT 16) ev Q (43, [(0, .ref a0), (1, .ref a1)], [], Mm sz sl K L κ' ρ'))) : wpE (xT 16) ev Q (37, [(0, .ref a0), (1, .ref a1)], [], Mm sz sl K L κ ρ) := by
  refine p_ald (cc3 c16_37) rfl ?_
  refine p_push (cc3 c16_38) ?_
  obtain ⟨g1, h⟩ := h
  obtain ⟨κ', ρ', he, h⟩ := h
  exact p_callV (cc3 c16_40) (Nat.le_of_ble_eq_true rfl) rfl rfl (Nat.le_of_ble_eq_true rfl) g1 he h
theorem B16_43 {ev : xV} {Q : Option Value → xM → Prop} {sz sl : Nat} {K L : Nat → Nat} {κ : Nat → Nat → Int32} {ρ : Nat → Nat → Nat} {a0 a1 : Nat} (h : (K a0 = 11) ∧ (∃ κ' ρ', ev 27 [.ref a0, .int 201] (Mm sz sl K L (U κ a0 2 (κ a0 1)) ρ) none (Mm sz sl K L κ' ρ') ∧ wpE (xT 16) ev Q (58, [(0, .ref a0), (1, .ref a1)], [], Mm sz sl K L κ' ρ'))) : wpE (xT 16) ev Q (43, [(0, .ref a0), (1, .ref a1)], [], Mm sz sl K L κ ρ) := by
  refine p_ald (cc3 c16_43) rfl ?_
  refine p_ald (cc3 c16_44) rfl ?_
  obtain ⟨g1, h⟩ := h
  refine p_geti (cc3 c16_45) g1 rfl ?_
  refine p_puti (cc3 c16_48) g1 mm_xpi ?_
  refine p_ald (cc3 c16_51) rfl ?_
  refine p_push (cc3 c16_52) ?_
  obtain ⟨κ', ρ', he, h⟩ := h
  exact p_callV (cc3 c16_55) (Nat.le_of_ble_eq_true rfl) rfl rfl (Nat.le_of_ble_eq_true rfl) g1 he h
theorem B16_58 {ev : xV} {Q : Option Value → xM → Prop} {sz sl : Nat} {K L : Nat → Nat} {κ : Nat → Nat → Int32} {ρ : Nat → Nat → Nat} {a0 a1 : Nat} (h : ((K a0 = 11) ∧ ∃ κ' ρ', ev 29 [.ref a0, .int 0, .int 0] (Mm sz sl K L κ ρ) none (Mm sz sl K L κ' ρ') ∧ wpE (xT 16) ev Q (64, [(0, .ref a0), (1, .ref a1)], [], Mm sz sl K L κ' ρ'))) : wpE (xT 16) ev Q (58, [(0, .ref a0), (1, .ref a1)], [], Mm sz sl K L κ ρ) := by
  refine p_ald (cc3 c16_58) rfl ?_
  refine p_push (cc3 c16_59) ?_
  refine p_push (cc3 c16_60) ?_
  obtain ⟨g1, h⟩ := h
  obtain ⟨κ', ρ', he, h⟩ := h
  exact p_callV (cc3 c16_61) (Nat.le_of_ble_eq_true rfl) rfl rfl (Nat.le_of_ble_eq_true rfl) g1 he h
theorem B16_64 {ev : xV} {Q : Option Value → xM → Prop} {sz sl : Nat} {K L : Nat → Nat} {κ : Nat → Nat → Int32} {ρ : Nat → Nat → Nat} {a0 a1 : Nat} (h : ((K a0 = 11) ∧ ∃ κ' ρ', ev 27 [.ref a0, .int 59] (Mm sz sl K L κ ρ) none (Mm sz sl K L κ' ρ') ∧ wpE (xT 16) ev Q (70, [(0, .ref a0), (1, .ref a1)], [], Mm sz sl K L κ' ρ'))) : wpE (xT 16) ev Q (64, [(0, .ref a0), (1, .ref a1)], [], Mm sz sl K L κ ρ) := by
  refine p_ald (cc3 c16_64) rfl ?_
  refine p_push (cc3 c16_65) ?_
  obtain ⟨g1, h⟩ := h
  obtain ⟨κ', ρ', he, h⟩ := h
  exact p_callV (cc3 c16_67) (Nat.le_of_ble_eq_true rfl) rfl rfl (Nat.le_of_ble_eq_true rfl) g1 he h
theorem B16_70 {ev : xV} {Q : Option Value → xM → Prop} {sz sl : Nat} {K L : Nat → Nat} {κ : Nat → Nat → Int32} {ρ : Nat → Nat → Nat} {a0 a1 : Nat} (h : ((K a0 = 11) ∧ ∃ κ' ρ', ev 27 [.ref a0, .int 401] (Mm sz sl K L κ ρ) none (Mm sz sl K L κ' ρ') ∧ wpE (xT 16) ev Q (77, [(0, .ref a0), (1, .ref a1)], [], Mm sz sl K L κ' ρ'))) : wpE (xT 16) ev Q (70, [(0, .ref a0), (1, .ref a1)], [], Mm sz sl K L κ ρ) := by
  refine p_ald (cc3 c16_70) rfl ?_
  refine p_push (cc3 c16_71) ?_
  obtain ⟨g1, h⟩ := h
  obtain ⟨κ', ρ', he, h⟩ := h
  exact p_callV (cc3 c16_74) (Nat.le_of_ble_eq_true rfl) rfl rfl (Nat.le_of_ble_eq_true rfl) g1 he h
theorem B16_77 {ev : xV} {Q : Option Value → xM → Prop} {sz sl : Nat} {K L : Nat → Nat} {κ : Nat → Nat → Int32} {ρ : Nat → Nat → Nat} {a0 a1 : Nat} (h : (K a0 = 11) ∧ Q (some (.int (κ a0 8))) (Mm sz sl K L κ ρ)) : wpE (xT 16) ev Q (77, [(0, .ref a0), (1, .ref a1)], [], Mm sz sl K L κ ρ) := by
  refine p_ald (cc3 c16_77) rfl ?_
  obtain ⟨g1, h⟩ := h
  refine p_geti (cc3 c16_78) g1 rfl ?_
  exact p_ri (cc3 c16_81) trivial h
theorem B17_0 {ev : xV} {Q : Option Value → xM → Prop} {sz sl : Nat} {K L : Nat → Nat} {κ : Nat → Nat → Int32} {ρ : Nat → Nat → Nat} {a0 : Nat} (h : (K a0 = 11) ∧ (((κ a0 8) = (-1)) → wpE (xT 17) ev Q (17, [(0, .ref a0)], [], Mm sz sl K L (U κ a0 6 (κ a0 7)) ρ)) ∧ (¬ ((κ a0 8) = (-1)) → Q none (Mm sz sl K L κ ρ))) : wpE (xT 17) ev Q (0, [(0, .ref a0)], [], Mm sz sl K L κ ρ) := by
  refine p_ald (cc3 c17_0) rfl ?_
  obtain ⟨g1, h⟩ := h
  refine p_geti (cc3 c17_1) g1 rfl ?_
  refine p_push (cc3 c17_4) ?_
  refine p_icmp (cc3 c17_5) (fun c => ?_) (fun c => ?_)
  · have h := h.1 c
    refine p_ald (cc3 c17_9) rfl ?_
    refine p_ald (cc3 c17_10) rfl ?_
    refine p_geti (cc3 c17_11) g1 rfl ?_
    refine p_puti (cc3 c17_14) g1 mm_xpi ?_
    exact h
  · have h := h.2 c
    exact p_rv (cc3 c17_8) h
theorem B17_17 {ev : xV} {Q : Option Value → xM → Prop} {sz sl : Nat} {K L : Nat → Nat} {κ : Nat → Nat → Int32} {ρ : Nat → Nat → Nat} {a0 : Nat} (h : (K a0 = 11) ∧ ((160 ≤ (κ a0 6)) → (¬ ρ a0 3 = 0) ∧ ((K (ρ a0 3) = 9) ∧ ∃ r κ' ρ', ev 18 [.ref (ρ a0 3), .int (κ a0 6)] (Mm sz sl K L κ ρ) (some (.int r)) (Mm sz sl K L κ' ρ') ∧ wpE (xT 17) ev Q (68, [(0, .ref a0)], [.int r], Mm sz sl K L κ' ρ'))) ∧ (¬ (160 ≤ (κ a0 6)) → (¬ ρ a0 3 = 0) ∧ ((K (ρ a0 3) = 9) ∧ ∃ r κ' ρ', ev 18 [.ref (ρ a0 3), .int (κ a0 6)] (Mm sz sl K L κ ρ) (some (.int r)) (Mm sz sl K L κ' ρ') ∧ wpE (xT 17) ev Q (38, [(0, .ref a0)], [.int r], Mm sz sl K L κ' ρ')))) : wpE (xT 17) ev Q (17, [(0, .ref a0)], [], Mm sz sl K L κ ρ) := by
  refine p_ald (cct c17_17 rfl) rfl ?_
  obtain ⟨g1, h⟩ := h
  refine p_geti (cc3 c17_18) g1 rfl ?_
  refine p_push (cc3 c17_21) ?_
  refine p_icmp (cc3 c17_24) (fun c => ?_) (fun c => ?_)
  · have h := h.1 c
    refine p_ald (cct c17_57 rfl) rfl ?_
    obtain ⟨g2, h⟩ := h
    refine p_getp (cc3 c17_58) g1 rfl g2 ?_
    refine p_ald (cc3 c17_61) rfl ?_
    refine p_geti (cc3 c17_62) g1 rfl ?_
    obtain ⟨g3, h⟩ := h
    obtain ⟨r, κ', ρ', he, h⟩ := h
    exact p_callV (cc3 c17_65) (Nat.le_of_ble_eq_true rfl) rfl rfl (Nat.le_of_ble_eq_true rfl) g3 he h
  · have h := h.2 c
    refine p_ald (cc3 c17_27) rfl ?_
    obtain ⟨g2, h⟩ := h
    refine p_getp (cc3 c17_28) g1 rfl g2 ?_
    refine p_ald (cc3 c17_31) rfl ?_
    refine p_geti (cc3 c17_32) g1 rfl ?_
    obtain ⟨g3, h⟩ := h
    obtain ⟨r, κ', ρ', he, h⟩ := h
    exact p_callV (cc3 c17_35) (Nat.le_of_ble_eq_true rfl) rfl rfl (Nat.le_of_ble_eq_true rfl) g3 he h
theorem B17_38 {ev : xV} {Q : Option Value → xM → Prop} {sz sl : Nat} {K L : Nat → Nat} {κ : Nat → Nat → Int32} {ρ : Nat → Nat → Nat} {s0 : Int32} {a0 : Nat} (h : (∃ r κ' ρ', ev 19 [.int s0] (Mm sz sl K L κ ρ) (some (.int r)) (Mm sz sl K L κ' ρ') ∧ wpE (xT 17) ev Q (41, [(0, .ref a0)], [.int r], Mm sz sl K L κ' ρ'))) : wpE (xT 17) ev Q (38, [(0, .ref a0)], [.int s0], Mm sz sl K L κ ρ) := by
  obtain ⟨r, κ', ρ', he, h⟩ := h
  exact p_callS (cc3 c17_38) (Nat.le_of_ble_eq_true rfl) rfl rfl (Nat.le_of_ble_eq_true rfl) he h
theorem B17_41 {ev : xV} {Q : Option Value → xM → Prop} {sz sl : Nat} {K L : Nat → Nat} {κ : Nat → Nat → Int32} {ρ : Nat → Nat → Nat} {s0 : Int32} {a0 : Nat} (h : ((s0 = 0) → (K a0 = 11) ∧ (¬ ρ a0 3 = 0) ∧ ((K (ρ a0 3) = 9) ∧ ∃ r κ' ρ', ev 18 [.ref (ρ a0 3), .int (κ a0 6)] (Mm sz sl K L κ ρ) (some (.int r)) (Mm sz sl K L κ' ρ') ∧ wpE (xT 17) ev Q (68, [(0, .ref a0)], [.int r], Mm sz sl K L κ' ρ'))) ∧ (¬ (s0 = 0) → (K a0 = 11) ∧ wpE (xT 17) ev Q (17, [(0, .ref a0)], [], Mm sz sl K L (U κ a0 6 ((κ a0 6) + 1)) ρ))) : wpE (xT 17) ev Q (41, [(0, .ref a0)], [.int s0], Mm sz sl K L κ ρ) := by
  refine p_if (cc3 c17_41) (fun c => ?_) (fun c => ?_)
  · have h := h.1 c
    refine p_ald (cct c17_57 rfl) rfl ?_
    obtain ⟨g1, h⟩ := h
    obtain ⟨g2, h⟩ := h
    refine p_getp (cc3 c17_58) g1 rfl g2 ?_
    refine p_ald (cc3 c17_61) rfl ?_
    refine p_geti (cc3 c17_62) g1 rfl ?_
    obtain ⟨g3, h⟩ := h
    obtain ⟨r, κ', ρ', he, h⟩ := h
    exact p_callV (cc3 c17_65) (Nat.le_of_ble_eq_true rfl) rfl rfl (Nat.le_of_ble_eq_true rfl) g3 he h
  · have h := h.2 c
    refine p_ald (cc3 c17_44) rfl ?_
    refine p_dup (cc3 c17_45) rfl ?_
    obtain ⟨g1, h⟩ := h
    refine p_geti (cc3 c17_46) g1 rfl ?_
    refine p_push (cc3 c17_49) ?_
    refine p_bin (cc3 c17_50) ?_
    refine p_puti (cc3 c17_51) g1 mm_xpi ?_
    refine p_goto (cc3 c17_54) ?_
    exact h
theorem B17_68 {ev : xV} {Q : Option Value → xM → Prop} {sz sl : Nat} {K L : Nat → Nat} {κ : Nat → Nat → Int32} {ρ : Nat → Nat → Nat} {s0 : Int32} {a0 : Nat} (h : (K a0 = 11) ∧ ((s0 = (-1)) → Q none (Mm sz sl K L (U (U κ a0 7 ((κ a0 6) + 1)) a0 4 401) ρ)) ∧ (¬ (s0 = (-1)) → (∃ r κ' ρ', ev 20 [.int s0] (Mm sz sl K L (U κ a0 7 ((κ a0 6) + 1)) ρ) (some (.int r)) (Mm sz sl K L κ' ρ') ∧ wpE (xT 17) ev Q (98, [(1, .int s0), (0, .ref a0)], [.int r], Mm sz sl K L κ' ρ')))) : wpE (xT 17) ev Q (68, [(0, .ref a0)], [.int s0], Mm sz sl K L κ ρ) := by
  refine p_ist (ls' := [(1, .int s0), (0, .ref a0)]) (cc3 c17_68) (by decide) rfl ?_
  refine p_ald (cc3 c17_69) rfl ?_
  refine p_ald (cc3 c17_70) rfl ?_
  obtain ⟨g1, h⟩ := h
  refine p_geti (cc3 c17_71) g1 rfl ?_
  refine p_push (cc3 c17_74) ?_
  refine p_bin (cc3 c17_75) ?_
  refine p_puti (cc3 c17_76) g1 mm_xpi ?_
  refine p_ild (cc3 c17_79) rfl ?_
  refine p_push (cc3 c17_80) ?_
  refine p_icmp (cc3 c17_81) (fun c => ?_) (fun c => ?_)
  · have h := h.1 c
    refine p_ald (cc3 c17_84) rfl ?_
    refine p_push (cc3 c17_85) ?_
    refine p_puti (cc3 c17_88) g1 mm_xpi ?_
    refine p_goto (cc3 c17_91) ?_
    refine p_lc (ls' := []) c17_140 rfl rfl ?_
    exact p_rv (cct c17_140 rfl) h
  · have h := h.2 c
    refine p_ild (cc3 c17_94) rfl ?_
    obtain ⟨r, κ', ρ', he, h⟩ := h
    exact p_callS (cc3 c17_95) (Nat.le_of_ble_eq_true rfl) rfl rfl (Nat.le_of_ble_eq_true rfl) he h
theorem B17_98 {ev : xV} {Q : Option Value → xM → Prop} {sz sl : Nat} {K L : Nat → Nat} {κ : Nat → Nat → Int32} {ρ : Nat → Nat → Nat} {x1 s0 : Int32} {a0 : Nat} (h : ((s0 = 0) → (∃ r κ' ρ', ev 24 [.int x1] (Mm sz sl K L κ ρ) (some (.int r)) (Mm sz sl K L κ' ρ') ∧ wpE (xT 17) ev Q (112, [(1, .int x1), (0, .ref a0)], [.int r], Mm sz sl K L κ' ρ'))) ∧ (¬ (s0 = 0) → ((K a0 = 11) ∧ ∃ κ' ρ', ev 21 [.ref a0] (Mm sz sl K L κ ρ) none (Mm sz sl K L κ' ρ') ∧ wpE (xT 17) ev Q (105, [(1, .int x1), (0, .ref a0)], [], Mm sz sl K L κ' ρ')))) : wpE (xT 17) ev Q (98, [(1, .int x1), (0, .ref a0)], [.int s0], Mm sz sl K L κ ρ) := by
  refine p_if (cc3 c17_98) (fun c => ?_) (fun c => ?_)
  · have h := h.1 c
    refine p_ild (cc3 c17_108) rfl ?_
    obtain ⟨r, κ', ρ', he, h⟩ := h
    exact p_callS (cc3 c17_109) (Nat.le_of_ble_eq_true rfl) rfl rfl (Nat.le_of_ble_eq_true rfl) he h
  · have h := h.2 c
    refine p_ald (cc3 c17_101) rfl ?_
    obtain ⟨g1, h⟩ := h
    obtain ⟨κ', ρ', he, h⟩ := h
    exact p_callV (cc3 c17_102) (Nat.le_of_ble_eq_true rfl) rfl rfl (Nat.le_of_ble_eq_true rfl) g1 he h
theorem B17_105 {ev : xV} {Q : Option Value → xM → Prop} {sz sl : Nat} {K L : Nat → Nat} {κ : Nat → Nat → Int32} {ρ : Nat → Nat → Nat} {x1 : Int32} {a0 : Nat} (h : Q none (Mm sz sl K L κ ρ)) : wpE (xT 17) ev Q (105, [(1, .int x1), (0, .ref a0)], [], Mm sz sl K L κ ρ) := by
  refine p_goto (cc3 c17_105) ?_
  refine p_lc (ls' := []) c17_140 rfl rfl ?_
  exact p_rv (cct c17_140 rfl) h
theorem B17_112 {ev : xV} {Q : Option Value → xM → Prop} {sz sl : Nat} {K L : Nat → Nat} {κ : Nat → Nat → Int32} {ρ : Nat → Nat → Nat} {x1 s0 : Int32} {a0 : Nat} (h : ((s0 = 0) → (∃ r κ' ρ', ev 26 [.int x1] (Mm sz sl K L κ ρ) (some (.int r)) (Mm sz sl K L κ' ρ') ∧ wpE (xT 17) ev Q (127, [(1, .int x1), (0, .ref a0)], [.int r, .ref a0], Mm sz sl K L κ' ρ'))) ∧ (¬ (s0 = 0) → ((K a0 = 11) ∧ ∃ κ' ρ', ev 25 [.ref a0] (Mm sz sl K L κ ρ) none (Mm sz sl K L κ' ρ') ∧ wpE (xT 17) ev Q (119, [(1, .int x1), (0, .ref a0)], [], Mm sz sl K L κ' ρ')))) : wpE (xT 17) ev Q (112, [(1, .int x1), (0, .ref a0)], [.int s0], Mm sz sl K L κ ρ) := by
  refine p_if (cc3 c17_112) (fun c => ?_) (fun c => ?_)
  · have h := h.1 c
    refine p_ald (cc3 c17_122) rfl ?_
    refine p_ild (cc3 c17_123) rfl ?_
    obtain ⟨r, κ', ρ', he, h⟩ := h
    exact p_callS (cc3 c17_124) (Nat.le_of_ble_eq_true rfl) rfl rfl (Nat.le_of_ble_eq_true rfl) he h
  · have h := h.2 c
    refine p_ald (cc3 c17_115) rfl ?_
    obtain ⟨g1, h⟩ := h
    obtain ⟨κ', ρ', he, h⟩ := h
    exact p_callV (cc3 c17_116) (Nat.le_of_ble_eq_true rfl) rfl rfl (Nat.le_of_ble_eq_true rfl) g1 he h
theorem B17_119 {ev : xV} {Q : Option Value → xM → Prop} {sz sl : Nat} {K L : Nat → Nat} {κ : Nat → Nat → Int32} {ρ : Nat → Nat → Nat} {x1 : Int32} {a0 : Nat} (h : Q none (Mm sz sl K L κ ρ)) : wpE (xT 17) ev Q (119, [(1, .int x1), (0, .ref a0)], [], Mm sz sl K L κ ρ) := by
  refine p_goto (cc3 c17_119) ?_
  refine p_lc (ls' := []) c17_140 rfl rfl ?_
  exact p_rv (cct c17_140 rfl) h
theorem B17_127 {ev : xV} {Q : Option Value → xM → Prop} {sz sl : Nat} {K L : Nat → Nat} {κ : Nat → Nat → Int32} {ρ : Nat → Nat → Nat} {x1 s0 : Int32} {a0 b1 : Nat} (h : ((s0 = 0) → (K b1 = 11) ∧ Q none (Mm sz sl K L (U κ b1 4 402) ρ)) ∧ (¬ (s0 = 0) → (K b1 = 11) ∧ Q none (Mm sz sl K L (U κ b1 4 x1) ρ))) : wpE (xT 17) ev Q (127, [(1, .int x1), (0, .ref a0)], [.int s0, .ref b1], Mm sz sl K L κ ρ) := by
  refine p_if (cc3 c17_127) (fun c => ?_) (fun c => ?_)
  · have h := h.1 c
    refine p_push (cc3 c17_134) ?_
    refine p_lc (ls' := []) c17_137 rfl rfl ?_
    obtain ⟨g1, h⟩ := h
    refine p_puti (cct c17_137 rfl) g1 mm_xpi ?_
    exact p_rv (cct c17_140 rfl) h
  · have h := h.2 c
    refine p_ild (cc3 c17_130) rfl ?_
    refine p_goto (cc3 c17_131) ?_
    refine p_lc (ls' := []) c17_137 rfl rfl ?_
    obtain ⟨g1, h⟩ := h
    refine p_puti (cct c17_137 rfl) g1 mm_xpi ?_
    exact p_rv (cct c17_140 rfl) h
theorem B18_0 {ev : xV} {Q : Option Value → xM → Prop} {sz sl : Nat} {K L : Nat → Nat} {κ : Nat → Nat → Int32} {ρ : Nat → Nat → Nat} {x1 : Int32} {a0 : Nat} (h : ((x1 < 0) → Q (some (.int ((-1)))) (Mm sz sl K L κ ρ)) ∧ (¬ (x1 < 0) → (K a0 = 9) ∧ (((κ a0 1) ≤ x1) → Q (some (.int ((-1)))) (Mm sz sl K L κ ρ)) ∧ (¬ ((κ a0 1) ≤ x1) → ((x1 < 160) → (¬ ρ a0 0 = 0) ∧ (K (ρ a0 0) = 20) ∧ (vp_in x1 (L (ρ a0 0))) ∧ Q (some (.int (κ (ρ a0 0) x1.toNatClampNeg))) (Mm sz sl K L κ ρ)) ∧ (¬ (x1 < 160) → Q (some (.int ((-1)))) (Mm sz sl K L κ ρ))))) : wpE (xT 18) ev Q (0, [(0, .ref a0), (1, .int x1)], [], Mm sz sl K L κ ρ) := by
  refine p_ild (cc3 c18_0) rfl ?_
  refine p_if (cc3 c18_1) (fun c => ?_) (fun c => ?_)
  · have h := h.1 c
    refine p_lc (ls' := []) c18_19 rfl rfl ?_
    refine p_push (cct c18_19 rfl) ?_
    refine p_goto (cc3 c18_20) ?_
    exact p_ri (cct c18_29 rfl) trivial h
  · have h := h.2 c
    refine p_ild (cc3 c18_4) rfl ?_
    refine p_ald (cc3 c18_5) rfl ?_
    obtain ⟨g1, h⟩ := h
    refine p_geti (cc3 c18_6) g1 rfl ?_
    refine p_icmp (cc3 c18_9) (fun c => ?_) (fun c => ?_)
    · have h := h.1 c
      refine p_lc (ls' := []) c18_19 rfl rfl ?_
      refine p_push (cct c18_19 rfl) ?_
      refine p_goto (cc3 c18_20) ?_
      exact p_ri (cct c18_29 rfl) trivial h
    · have h := h.2 c
      refine p_ild (cc3 c18_12) rfl ?_
      refine p_push (cc3 c18_13) ?_
      refine p_icmp (cc3 c18_16) (fun c => ?_) (fun c => ?_)
      · have h := h.1 c
        refine p_ald (cc3 c18_23) rfl ?_
        obtain ⟨g2, h⟩ := h
        refine p_getp (cc3 c18_24) g1 rfl g2 ?_
        refine p_ild (cc3 c18_27) rfl ?_
        obtain ⟨g3, h⟩ := h
        obtain ⟨g4, h⟩ := h
        refine p_aldi (cc3 c18_28) g3 g4 rfl ?_
        refine p_lc (ls' := []) c18_29 rfl rfl ?_
        exact p_ri (cct c18_29 rfl) trivial h
      · have h := h.2 c
        refine p_lc (ls' := []) c18_19 rfl rfl ?_
        refine p_push (cct c18_19 rfl) ?_
        refine p_goto (cc3 c18_20) ?_
        exact p_ri (cct c18_29 rfl) trivial h
theorem B19_0 {ev : xV} {Q : Option Value → xM → Prop} {sz sl : Nat} {K L : Nat → Nat} {κ : Nat → Nat → Int32} {ρ : Nat → Nat → Nat} {x0 : Int32} (h : ((x0 = 32) → Q (some (.int 1)) (Mm sz sl K L κ ρ)) ∧ (¬ (x0 = 32) → ((x0 = 10) → Q (some (.int 1)) (Mm sz sl K L κ ρ)) ∧ (¬ (x0 = 10) → Q (some (.int 0)) (Mm sz sl K L κ ρ)))) : wpE (xT 19) ev Q (0, [(0, .int x0)], [], Mm sz sl K L κ ρ) := by
  refine p_ild (cc3 c19_0) rfl ?_
  refine p_push (cc3 c19_1) ?_
  refine p_icmp (cc3 c19_3) (fun c => ?_) (fun c => ?_)
  · have h := h.1 c
    refine p_lc (ls' := []) c19_12 rfl rfl ?_
    refine p_push (cct c19_12 rfl) ?_
    refine p_goto (cc3 c19_13) ?_
    exact p_ri (cct c19_17 rfl) (by decide) h
  · have h := h.2 c
    refine p_ild (cc3 c19_6) rfl ?_
    refine p_push (cc3 c19_7) ?_
    refine p_icmp (cc3 c19_9) (fun c => ?_) (fun c => ?_)
    · have h := h.1 c
      refine p_lc (ls' := []) c19_12 rfl rfl ?_
      refine p_push (cct c19_12 rfl) ?_
      refine p_goto (cc3 c19_13) ?_
      exact p_ri (cct c19_17 rfl) (by decide) h
    · have h := h.2 c
      refine p_push (cc3 c19_16) ?_
      refine p_lc (ls' := []) c19_17 rfl rfl ?_
      exact p_ri (cct c19_17 rfl) (by decide) h
theorem B20_0 {ev : xV} {Q : Option Value → xM → Prop} {sz sl : Nat} {K L : Nat → Nat} {κ : Nat → Nat → Int32} {ρ : Nat → Nat → Nat} {x0 : Int32} (h : ((x0 < 97) → Q (some (.int 0)) (Mm sz sl K L κ ρ)) ∧ (¬ (x0 < 97) → ((122 < x0) → Q (some (.int 0)) (Mm sz sl K L κ ρ)) ∧ (¬ (122 < x0) → Q (some (.int 1)) (Mm sz sl K L κ ρ)))) : wpE (xT 20) ev Q (0, [(0, .int x0)], [], Mm sz sl K L κ ρ) := by
  refine p_ild (cc3 c20_0) rfl ?_
  refine p_push (cc3 c20_1) ?_
  refine p_icmp (cc3 c20_3) (fun c => ?_) (fun c => ?_)
  · have h := h.1 c
    refine p_lc (ls' := []) c20_16 rfl rfl ?_
    refine p_push (cct c20_16 rfl) ?_
    exact p_ri (cct c20_17 rfl) (by decide) h
  · have h := h.2 c
    refine p_ild (cc3 c20_6) rfl ?_
    refine p_push (cc3 c20_7) ?_
    refine p_icmp (cc3 c20_9) (fun c => ?_) (fun c => ?_)
    · have h := h.1 c
      refine p_lc (ls' := []) c20_16 rfl rfl ?_
      refine p_push (cct c20_16 rfl) ?_
      exact p_ri (cct c20_17 rfl) (by decide) h
    · have h := h.2 c
      refine p_push (cc3 c20_12) ?_
      refine p_goto (cc3 c20_13) ?_
      refine p_lc (ls' := []) c20_17 rfl rfl ?_
      exact p_ri (cct c20_17 rfl) (by decide) h
theorem B21_0 {ev : xV} {Q : Option Value → xM → Prop} {sz sl : Nat} {K L : Nat → Nat} {κ : Nat → Nat → Int32} {ρ : Nat → Nat → Nat} {a0 : Nat} (h : (K a0 = 11) ∧ ((160 ≤ (κ a0 7)) → wpE (xT 21) ev Q (49, [(0, .ref a0), (1, .int 0)], [], Mm sz sl K L (U κ a0 4 402) ρ)) ∧ (¬ (160 ≤ (κ a0 7)) → (¬ ρ a0 3 = 0) ∧ ((K (ρ a0 3) = 9) ∧ ∃ r κ' ρ', ev 18 [.ref (ρ a0 3), .int (κ a0 7)] (Mm sz sl K L κ ρ) (some (.int r)) (Mm sz sl K L κ' ρ') ∧ wpE (xT 21) ev Q (21, [(0, .ref a0)], [.int r], Mm sz sl K L κ' ρ')))) : wpE (xT 21) ev Q (0, [(0, .ref a0)], [], Mm sz sl K L κ ρ) := by
  refine p_ald (cct c21_0 rfl) rfl ?_
  obtain ⟨g1, h⟩ := h
  refine p_geti (cc3 c21_1) g1 rfl ?_
  refine p_push (cc3 c21_4) ?_
  refine p_icmp (cc3 c21_7) (fun c => ?_) (fun c => ?_)
  · have h := h.1 c
    refine p_ald (cct c21_40 rfl) rfl ?_
    refine p_push (cc3 c21_41) ?_
    refine p_puti (cc3 c21_44) g1 mm_xpi ?_
    refine p_push (cc3 c21_47) ?_
    refine p_ist (ls' := [(1, .int 0), (0, .ref a0)]) (cc3 c21_48) (by decide) rfl ?_
    exact p_lc (ls' := [(0, .ref a0), (1, .int 0)]) c21_49 rfl rfl h
  · have h := h.2 c
    refine p_ald (cc3 c21_10) rfl ?_
    obtain ⟨g2, h⟩ := h
    refine p_getp (cc3 c21_11) g1 rfl g2 ?_
    refine p_ald (cc3 c21_14) rfl ?_
    refine p_geti (cc3 c21_15) g1 rfl ?_
    obtain ⟨g3, h⟩ := h
    obtain ⟨r, κ', ρ', he, h⟩ := h
    exact p_callV (cc3 c21_18) (Nat.le_of_ble_eq_true rfl) rfl rfl (Nat.le_of_ble_eq_true rfl) g3 he h
theorem B21_21 {ev : xV} {Q : Option Value → xM → Prop} {sz sl : Nat} {K L : Nat → Nat} {κ : Nat → Nat → Int32} {ρ : Nat → Nat → Nat} {s0 : Int32} {a0 : Nat} (h : (∃ r κ' ρ', ev 20 [.int s0] (Mm sz sl K L κ ρ) (some (.int r)) (Mm sz sl K L κ' ρ') ∧ wpE (xT 21) ev Q (24, [(0, .ref a0)], [.int r], Mm sz sl K L κ' ρ'))) : wpE (xT 21) ev Q (21, [(0, .ref a0)], [.int s0], Mm sz sl K L κ ρ) := by
  obtain ⟨r, κ', ρ', he, h⟩ := h
  exact p_callS (cc3 c21_21) (Nat.le_of_ble_eq_true rfl) rfl rfl (Nat.le_of_ble_eq_true rfl) he h
theorem B21_24 {ev : xV} {Q : Option Value → xM → Prop} {sz sl : Nat} {K L : Nat → Nat} {κ : Nat → Nat → Int32} {ρ : Nat → Nat → Nat} {s0 : Int32} {a0 : Nat} (h : ((s0 = 0) → (K a0 = 11) ∧ wpE (xT 21) ev Q (49, [(0, .ref a0), (1, .int 0)], [], Mm sz sl K L (U κ a0 4 402) ρ)) ∧ (¬ (s0 = 0) → (K a0 = 11) ∧ wpE (xT 21) ev Q (0, [(0, .ref a0)], [], Mm sz sl K L (U κ a0 7 ((κ a0 7) + 1)) ρ))) : wpE (xT 21) ev Q (24, [(0, .ref a0)], [.int s0], Mm sz sl K L κ ρ) := by
  refine p_if (cc3 c21_24) (fun c => ?_) (fun c => ?_)
  · have h := h.1 c
    refine p_ald (cct c21_40 rfl) rfl ?_
    refine p_push (cc3 c21_41) ?_
    obtain ⟨g1, h⟩ := h
    refine p_puti (cc3 c21_44) g1 mm_xpi ?_
    refine p_push (cc3 c21_47) ?_
    refine p_ist (ls' := [(1, .int 0), (0, .ref a0)]) (cc3 c21_48) (by decide) rfl ?_
    exact p_lc (ls' := [(0, .ref a0), (1, .int 0)]) c21_49 rfl rfl h
  · have h := h.2 c
    refine p_ald (cc3 c21_27) rfl ?_
    refine p_dup (cc3 c21_28) rfl ?_
    obtain ⟨g1, h⟩ := h
    refine p_geti (cc3 c21_29) g1 rfl ?_
    refine p_push (cc3 c21_32) ?_
    refine p_bin (cc3 c21_33) ?_
    refine p_puti (cc3 c21_34) g1 mm_xpi ?_
    refine p_goto (cc3 c21_37) ?_
    exact h
theorem B21_49 {ev : xV} {Q : Option Value → xM → Prop} {sz sl : Nat} {K L : Nat → Nat} {κ : Nat → Nat → Int32} {ρ : Nat → Nat → Nat} {x1 : Int32} {a0 : Nat} (h : ((11 ≤ x1) → Q none (Mm sz sl K L κ ρ)) ∧ (¬ (11 ≤ x1) → (∃ ra κ' ρ', ev 22 [.int x1] (Mm sz sl K L κ ρ) (some (.ref ra)) (Mm sz sl K L κ' ρ') ∧ wpE (xT 21) ev Q (60, [(0, .ref a0), (1, .int x1)], [.ref ra, .ref a0], Mm sz sl K L κ' ρ')))) : wpE (xT 21) ev Q (49, [(0, .ref a0), (1, .int x1)], [], Mm sz sl K L κ ρ) := by
  refine p_ild (cct c21_49 rfl) rfl ?_
  refine p_push (cc3 c21_50) ?_
  refine p_icmp (cc3 c21_52) (fun c => ?_) (fun c => ?_)
  · have h := h.1 c
    exact p_rv (cc3 c21_81) h
  · have h := h.2 c
    refine p_ald (cc3 c21_55) rfl ?_
    refine p_ild (cc3 c21_56) rfl ?_
    obtain ⟨ra, κ', ρ', he, h⟩ := h
    exact p_callS (cc3 c21_57) (Nat.le_of_ble_eq_true rfl) rfl rfl (Nat.le_of_ble_eq_true rfl) he h
theorem B21_60 {ev : xV} {Q : Option Value → xM → Prop} {sz sl : Nat} {K L : Nat → Nat} {κ : Nat → Nat → Int32} {ρ : Nat → Nat → Nat} {x1 : Int32} {a0 b0 b1 : Nat} (h : ((K b1 = 11) ∧ ∃ r κ' ρ', ev 23 [.ref b1, .ref b0] (Mm sz sl K L κ ρ) (some (.int r)) (Mm sz sl K L κ' ρ') ∧ wpE (xT 21) ev Q (63, [(0, .ref a0), (1, .int x1)], [.int r], Mm sz sl K L κ' ρ'))) : wpE (xT 21) ev Q (60, [(0, .ref a0), (1, .int x1)], [.ref b0, .ref b1], Mm sz sl K L κ ρ) := by
  obtain ⟨g1, h⟩ := h
  obtain ⟨r, κ', ρ', he, h⟩ := h
  exact p_callV (cc3 c21_60) (Nat.le_of_ble_eq_true rfl) rfl rfl (Nat.le_of_ble_eq_true rfl) g1 he h
theorem B21_63 {ev : xV} {Q : Option Value → xM → Prop} {sz sl : Nat} {K L : Nat → Nat} {κ : Nat → Nat → Int32} {ρ : Nat → Nat → Nat} {x1 s0 : Int32} {a0 : Nat} (h : ((s0 = 0) → wpE (xT 21) ev Q (49, [(0, .ref a0), (1, .int (x1 + 1))], [], Mm sz sl K L κ ρ)) ∧ (¬ (s0 = 0) → (K a0 = 11) ∧ wpE (xT 21) ev Q (49, [(0, .ref a0), (1, .int (x1 + 1))], [], Mm sz sl K L (U κ a0 4 (200 + x1)) ρ))) : wpE (xT 21) ev Q (63, [(0, .ref a0), (1, .int x1)], [.int s0], Mm sz sl K L κ ρ) := by
  refine p_if (cc3 c21_63) (fun c => ?_) (fun c => ?_)
  · have h := h.1 c
    refine p_iinc (y := x1 + 1) (ls' := [(1, .int (x1 + 1)), (0, .ref a0)]) (cct c21_75 rfl) (by decide) rfl rfl rfl ?_
    refine p_goto (cc3 c21_78) ?_
    exact p_lc (ls' := [(0, .ref a0), (1, .int (x1 + 1))]) c21_49 rfl rfl h
  · have h := h.2 c
    refine p_ald (cc3 c21_66) rfl ?_
    refine p_push (cc3 c21_67) ?_
    refine p_ild (cc3 c21_70) rfl ?_
    refine p_bin (cc3 c21_71) ?_
    obtain ⟨g1, h⟩ := h
    refine p_puti (cc3 c21_72) g1 mm_xpi ?_
    refine p_iinc (y := x1 + 1) (ls' := [(1, .int (x1 + 1)), (0, .ref a0)]) (cct c21_75 rfl) (by decide) rfl rfl rfl ?_
    refine p_goto (cc3 c21_78) ?_
    exact p_lc (ls' := [(0, .ref a0), (1, .int (x1 + 1))]) c21_49 rfl rfl h
