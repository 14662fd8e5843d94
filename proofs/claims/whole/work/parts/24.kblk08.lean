theorem B110_0 {ev : xV} {Q : Option Value → xM → Prop} {sz sl : Nat} {K L : Nat → Nat} {κ : Nat → Nat → Int32} {ρ : Nat → Nat → Nat} {a0 : Nat} (h : (K a0 = 2) ∧ (∃ κ' ρ', ev 111 [.ref a0, .int 0, .int 0, .int 0] (Mm sz sl K L (U (U κ a0 4 (-1)) a0 5 0) ρ) none (Mm sz sl K L κ' ρ') ∧ wpE (xT 110) ev Q (17, [(0, .ref a0)], [], Mm sz sl K L κ' ρ'))) : wpE (xT 110) ev Q (0, [(0, .ref a0)], [], Mm sz sl K L κ ρ) := by
  refine p_ald (cc3 c110_0) rfl ?_
  refine p_push (cc3 c110_1) ?_
  obtain ⟨g1, h⟩ := h
  refine p_puti (cc3 c110_2) g1 mm_xpi ?_
  refine p_ald (cc3 c110_5) rfl ?_
  refine p_push (cc3 c110_6) ?_
  refine p_puti (cc3 c110_7) g1 mm_xpi ?_
  refine p_ald (cc3 c110_10) rfl ?_
  refine p_push (cc3 c110_11) ?_
  refine p_push (cc3 c110_12) ?_
  refine p_push (cc3 c110_13) ?_
  obtain ⟨κ', ρ', he, h⟩ := h
  exact p_callV (cc3 c110_14) (Nat.le_of_ble_eq_true rfl) rfl rfl (Nat.le_of_ble_eq_true rfl) g1 he h
theorem B110_17 {ev : xV} {Q : Option Value → xM → Prop} {sz sl : Nat} {K L : Nat → Nat} {κ : Nat → Nat → Int32} {ρ : Nat → Nat → Nat} {a0 : Nat} (h : (K a0 = 2) ∧ Q (some (.int (κ a0 4))) (Mm sz sl K L κ ρ)) : wpE (xT 110) ev Q (17, [(0, .ref a0)], [], Mm sz sl K L κ ρ) := by
  refine p_ald (cc3 c110_17) rfl ?_
  obtain ⟨g1, h⟩ := h
  refine p_geti (cc3 c110_18) g1 rfl ?_
  exact p_ri (cc3 c110_21) trivial h
theorem B111_0 {ev : xV} {Q : Option Value → xM → Prop} {sz sl : Nat} {K L : Nat → Nat} {κ : Nat → Nat → Int32} {ρ : Nat → Nat → Nat} {x1 x2 x3 : Int32} {a0 : Nat} (h : ((K a0 = 2) ∧ ∃ r κ' ρ', ev 112 [.ref a0, .int x1] (Mm sz sl K L κ ρ) (some (.int r)) (Mm sz sl K L κ' ρ') ∧ wpE (xT 111) ev Q (7, [(0, .ref a0), (1, .int x1), (2, .int x2), (3, .int x3)], [.int r, .int x2, .ref a0], Mm sz sl K L κ' ρ'))) : wpE (xT 111) ev Q (0, [(0, .ref a0), (1, .int x1), (2, .int x2), (3, .int x3)], [], Mm sz sl K L κ ρ) := by
  refine p_ald (cc3 c111_0) rfl ?_
  refine p_ild (cc3 c111_1) rfl ?_
  refine p_ald (cc3 c111_2) rfl ?_
  refine p_ild (cc3 c111_3) rfl ?_
  obtain ⟨g1, h⟩ := h
  obtain ⟨r, κ', ρ', he, h⟩ := h
  exact p_callV (cc3 c111_4) (Nat.le_of_ble_eq_true rfl) rfl rfl (Nat.le_of_ble_eq_true rfl) g1 he h
theorem B111_7 {ev : xV} {Q : Option Value → xM → Prop} {sz sl : Nat} {K L : Nat → Nat} {κ : Nat → Nat → Int32} {ρ : Nat → Nat → Nat} {x1 x2 x3 s0 s1 : Int32} {a0 b2 : Nat} (h : ((K b2 = 2) ∧ ∃ r κ' ρ', ev 113 [.ref b2, .int (s1 + s0), .int x3] (Mm sz sl K L κ ρ) (some (.int r)) (Mm sz sl K L κ' ρ') ∧ wpE (xT 111) ev Q (12, [(0, .ref a0), (1, .int x1), (2, .int x2), (3, .int x3)], [.int r], Mm sz sl K L κ' ρ'))) : wpE (xT 111) ev Q (7, [(0, .ref a0), (1, .int x1), (2, .int x2), (3, .int x3)], [.int s0, .int s1, .ref b2], Mm sz sl K L κ ρ) := by
  refine p_bin (cc3 c111_7) ?_
  refine p_ild (cc3 c111_8) rfl ?_
  obtain ⟨g1, h⟩ := h
  obtain ⟨r, κ', ρ', he, h⟩ := h
  exact p_callV (cc3 c111_9) (Nat.le_of_ble_eq_true rfl) rfl rfl (Nat.le_of_ble_eq_true rfl) g1 he h
theorem B111_12 {ev : xV} {Q : Option Value → xM → Prop} {sz sl : Nat} {K L : Nat → Nat} {κ : Nat → Nat → Int32} {ρ : Nat → Nat → Nat} {x1 x2 x3 s0 : Int32} {a0 : Nat} (h : ((s0 = 0) → Q none (Mm sz sl K L κ ρ)) ∧ (¬ (s0 = 0) → ((x1 < 8) → (K a0 = 2) ∧ (¬ ρ a0 0 = 0) ∧ (K (ρ a0 0) = 20) ∧ (vp_in x1 (L (ρ a0 0))) ∧ wpE (xT 111) ev Q (62, [(0, .ref a0), (1, .int x1), (2, .int x2), (3, .int x3), (4, .int (κ (ρ a0 0) x1.toNatClampNeg)), (5, .int 0)], [], Mm sz sl K L κ ρ)) ∧ (¬ (x1 < 8) → (K a0 = 2) ∧ (∃ r κ' ρ', ev 114 [.int x3] (Mm sz sl K L (U κ a0 4 x2) ρ) (some (.int r)) (Mm sz sl K L κ' ρ') ∧ wpE (xT 111) ev Q (32, [(0, .ref a0), (1, .int x1), (2, .int x2), (3, .int x3)], [.int r, .ref a0], Mm sz sl K L κ' ρ'))))) : wpE (xT 111) ev Q (12, [(0, .ref a0), (1, .int x1), (2, .int x2), (3, .int x3)], [.int s0], Mm sz sl K L κ ρ) := by
  refine p_if (cc3 c111_12) (fun c => ?_) (fun c => ?_)
  · have h := h.1 c
    exact p_rv (cc3 c111_15) h
  · have h := h.2 c
    refine p_ild (cc3 c111_16) rfl ?_
    refine p_push (cc3 c111_17) ?_
    refine p_icmp (cc3 c111_19) (fun c => ?_) (fun c => ?_)
    · have h := h.1 c
      refine p_ald (cc3 c111_51) rfl ?_
      obtain ⟨g1, h⟩ := h
      obtain ⟨g2, h⟩ := h
      refine p_getp (cc3 c111_52) g1 rfl g2 ?_
      refine p_ild (cc3 c111_55) rfl ?_
      obtain ⟨g3, h⟩ := h
      obtain ⟨g4, h⟩ := h
      refine p_aldi (cc3 c111_56) g3 g4 rfl ?_
      refine p_ist (ls' := [(4, .int (κ (ρ a0 0) x1.toNatClampNeg)), (0, .ref a0), (1, .int x1), (2, .int x2), (3, .int x3)]) (cc3 c111_57) (by decide) rfl ?_
      refine p_push (cc3 c111_59) ?_
      refine p_ist (ls' := [(5, .int 0), (4, .int (κ (ρ a0 0) x1.toNatClampNeg)), (0, .ref a0), (1, .int x1), (2, .int x2), (3, .int x3)]) (cc3 c111_60) (by decide) rfl ?_
      exact p_lc (ls' := [(0, .ref a0), (1, .int x1), (2, .int x2), (3, .int x3), (4, .int (κ (ρ a0 0) x1.toNatClampNeg)), (5, .int 0)]) c111_62 rfl rfl h
    · have h := h.2 c
      refine p_ald (cc3 c111_22) rfl ?_
      refine p_ild (cc3 c111_23) rfl ?_
      obtain ⟨g1, h⟩ := h
      refine p_puti (cc3 c111_24) g1 mm_xpi ?_
      refine p_ald (cc3 c111_27) rfl ?_
      refine p_ild (cc3 c111_28) rfl ?_
      obtain ⟨r, κ', ρ', he, h⟩ := h
      exact p_callS (cc3 c111_29) (Nat.le_of_ble_eq_true rfl) rfl rfl (Nat.le_of_ble_eq_true rfl) he h
theorem B111_32 {ev : xV} {Q : Option Value → xM → Prop} {sz sl : Nat} {K L : Nat → Nat} {κ : Nat → Nat → Int32} {ρ : Nat → Nat → Nat} {x1 x2 x3 s0 : Int32} {a0 b1 : Nat} (h : (K b1 = 2) ∧ (K a0 = 2) ∧ (¬ ρ a0 3 = 0) ∧ (¬ ρ a0 2 = 0) ∧ (K (ρ a0 2) = 20) ∧ (K (ρ a0 3) = 20) ∧ (¬ (0 : Int32) < 0) ∧ (¬ (8 : Int32) < 0) ∧ ((0 : Int32).toNatClampNeg + (8 : Int32).toNatClampNeg ≤ L (ρ a0 3)) ∧ ((0 : Int32).toNatClampNeg + (8 : Int32).toNatClampNeg ≤ L (ρ a0 2)) ∧ Q none (Mm sz sl K L (CP (U κ b1 5 s0) (ρ a0 3) (ρ a0 2) ((0 : Int32).toNatClampNeg) ((0 : Int32).toNatClampNeg) ((8 : Int32).toNatClampNeg)) ρ)) : wpE (xT 111) ev Q (32, [(0, .ref a0), (1, .int x1), (2, .int x2), (3, .int x3)], [.int s0, .ref b1], Mm sz sl K L κ ρ) := by
  obtain ⟨g1, h⟩ := h
  refine p_puti (cc3 c111_32) g1 mm_xpi ?_
  refine p_ald (cc3 c111_35) rfl ?_
  obtain ⟨g2, h⟩ := h
  obtain ⟨g3, h⟩ := h
  refine p_getp (cc3 c111_36) g2 rfl g3 ?_
  refine p_push (cc3 c111_39) ?_
  refine p_ald (cc3 c111_40) rfl ?_
  obtain ⟨g4, h⟩ := h
  refine p_getp (cc3 c111_41) g2 rfl g4 ?_
  refine p_push (cc3 c111_44) ?_
  refine p_push (cc3 c111_45) ?_
  obtain ⟨g5, h⟩ := h
  obtain ⟨g6, h⟩ := h
  obtain ⟨g7, h⟩ := h
  obtain ⟨g8, h⟩ := h
  obtain ⟨g9, h⟩ := h
  obtain ⟨g10, h⟩ := h
  refine p_copy (cc3 c111_47) g5 g6 g7 g7 g8 g9 g10 (Nat.le_of_ble_eq_true rfl) ?_
  exact p_rv (cc3 c111_50) h
theorem B111_62 {ev : xV} {Q : Option Value → xM → Prop} {sz sl : Nat} {K L : Nat → Nat} {κ : Nat → Nat → Int32} {ρ : Nat → Nat → Nat} {x1 x2 x3 x4 x5 : Int32} {a0 : Nat} (h : ((4 ≤ x5) → (K a0 = 2) ∧ (¬ ρ a0 3 = 0) ∧ (K (ρ a0 3) = 20) ∧ (vp_in x1 (L (ρ a0 3))) ∧ (∃ κ' ρ', ev 111 [.ref a0, .int (x1 + 1), .int x2, .int x3] (Mm sz sl K L (U κ (ρ a0 3) x1.toNatClampNeg (-1)) ρ) none (Mm sz sl K L κ' ρ') ∧ wpE (xT 111) ev Q (156, [(0, .ref a0), (1, .int x1), (2, .int x2), (3, .int x3)], [], Mm sz sl K L κ' ρ'))) ∧ (¬ (4 ≤ x5) → ((x4 = (-1)) → (K a0 = 2) ∧ (¬ ρ a0 3 = 0) ∧ (K (ρ a0 3) = 20) ∧ (vp_in x1 (L (ρ a0 3))) ∧ (∃ κ' ρ', ev 111 [.ref a0, .int (x1 + 1), .int x2, .int x3] (Mm sz sl K L (U κ (ρ a0 3) x1.toNatClampNeg (-1)) ρ) none (Mm sz sl K L κ' ρ') ∧ wpE (xT 111) ev Q (156, [(0, .ref a0), (1, .int x1), (2, .int x2), (3, .int x3)], [], Mm sz sl K L κ' ρ'))) ∧ (¬ (x4 = (-1)) → (K a0 = 2) ∧ (¬ ρ a0 1 = 0) ∧ (K (ρ a0 1) = 20) ∧ (vp_in x5 (L (ρ a0 1))) ∧ (((κ (ρ a0 1) x5.toNatClampNeg) < x4) → wpE (xT 111) ev Q (62, [(0, .ref a0), (1, .int x1), (2, .int x2), (3, .int x3), (4, .int x4), (5, .int (x5 + 1))], [], Mm sz sl K L κ ρ)) ∧ (¬ ((κ (ρ a0 1) x5.toNatClampNeg) < x4) → (¬ ρ a0 3 = 0) ∧ (K (ρ a0 3) = 20) ∧ (vp_in x1 (L (ρ a0 3))) ∧ (∃ κ' ρ', ev 111 [.ref a0, .int (x1 + 1), .int (x2 + 1), .int (x3 ||| ((1 : Int32) <<< (x5 &&& 31)))] (Mm sz sl K L (U (U κ (ρ a0 1) x5.toNatClampNeg ((κ (ρ a0 1) x5.toNatClampNeg) - x4)) (ρ a0 3) x1.toNatClampNeg x5) ρ) none (Mm sz sl K L κ' ρ') ∧ wpE (xT 111) ev Q (122, [(0, .ref a0), (1, .int x1), (2, .int x2), (3, .int x3), (4, .int x4), (5, .int x5)], [], Mm sz sl K L κ' ρ')))))) : wpE (xT 111) ev Q (62, [(0, .ref a0), (1, .int x1), (2, .int x2), (3, .int x3), (4, .int x4), (5, .int x5)], [], Mm sz sl K L κ ρ) := by
  refine p_ild (cct c111_62 rfl) rfl ?_
  refine p_push (cc3 c111_64) ?_
  refine p_icmp (cc3 c111_65) (fun c => ?_) (fun c => ?_)
  · have h := h.1 c
    refine p_lc (ls' := [(0, .ref a0), (1, .int x1), (2, .int x2), (3, .int x3)]) c111_140 rfl rfl ?_
    refine p_ald (cct c111_140 rfl) rfl ?_
    obtain ⟨g1, h⟩ := h
    obtain ⟨g2, h⟩ := h
    refine p_getp (cc3 c111_141) g1 rfl g2 ?_
    refine p_ild (cc3 c111_144) rfl ?_
    refine p_push (cc3 c111_145) ?_
    obtain ⟨g3, h⟩ := h
    obtain ⟨g4, h⟩ := h
    refine p_asti (cc3 c111_146) g3 g4 mm_xpi ?_
    refine p_ald (cc3 c111_147) rfl ?_
    refine p_ild (cc3 c111_148) rfl ?_
    refine p_push (cc3 c111_149) ?_
    refine p_bin (cc3 c111_150) ?_
    refine p_ild (cc3 c111_151) rfl ?_
    refine p_ild (cc3 c111_152) rfl ?_
    obtain ⟨κ', ρ', he, h⟩ := h
    exact p_callV (cc3 c111_153) (Nat.le_of_ble_eq_true rfl) rfl rfl (Nat.le_of_ble_eq_true rfl) g1 he h
  · have h := h.2 c
    refine p_ild (cc3 c111_68) rfl ?_
    refine p_push (cc3 c111_70) ?_
    refine p_icmp (cc3 c111_71) (fun c => ?_) (fun c => ?_)
    · have h := h.1 c
      refine p_lc (ls' := [(0, .ref a0), (1, .int x1), (2, .int x2), (3, .int x3)]) c111_140 rfl rfl ?_
      refine p_ald (cct c111_140 rfl) rfl ?_
      obtain ⟨g1, h⟩ := h
      obtain ⟨g2, h⟩ := h
      refine p_getp (cc3 c111_141) g1 rfl g2 ?_
      refine p_ild (cc3 c111_144) rfl ?_
      refine p_push (cc3 c111_145) ?_
      obtain ⟨g3, h⟩ := h
      obtain ⟨g4, h⟩ := h
      refine p_asti (cc3 c111_146) g3 g4 mm_xpi ?_
      refine p_ald (cc3 c111_147) rfl ?_
      refine p_ild (cc3 c111_148) rfl ?_
      refine p_push (cc3 c111_149) ?_
      refine p_bin (cc3 c111_150) ?_
      refine p_ild (cc3 c111_151) rfl ?_
      refine p_ild (cc3 c111_152) rfl ?_
      obtain ⟨κ', ρ', he, h⟩ := h
      exact p_callV (cc3 c111_153) (Nat.le_of_ble_eq_true rfl) rfl rfl (Nat.le_of_ble_eq_true rfl) g1 he h
    · have h := h.2 c
      refine p_ild (cc3 c111_74) rfl ?_
      refine p_ald (cc3 c111_76) rfl ?_
      obtain ⟨g1, h⟩ := h
      obtain ⟨g2, h⟩ := h
      refine p_getp (cc3 c111_77) g1 rfl g2 ?_
      refine p_ild (cc3 c111_80) rfl ?_
      obtain ⟨g3, h⟩ := h
      obtain ⟨g4, h⟩ := h
      refine p_aldi (cc3 c111_82) g3 g4 rfl ?_
      refine p_icmp (cc3 c111_83) (fun c => ?_) (fun c => ?_)
      · have h := h.1 c
        refine p_iinc (y := x5 + 1) (ls' := [(5, .int (x5 + 1)), (0, .ref a0), (1, .int x1), (2, .int x2), (3, .int x3), (4, .int x4)]) (cct c111_134 rfl) (by decide) rfl rfl rfl ?_
        refine p_goto (cc3 c111_137) ?_
        exact p_lc (ls' := [(0, .ref a0), (1, .int x1), (2, .int x2), (3, .int x3), (4, .int x4), (5, .int (x5 + 1))]) c111_62 rfl rfl h
      · have h := h.2 c
        refine p_ald (cc3 c111_86) rfl ?_
        refine p_getp (cc3 c111_87) g1 rfl g2 ?_
        refine p_ild (cc3 c111_90) rfl ?_
        refine p_dup2 (cc3 c111_92) rfl rfl ?_
        refine p_aldi (cc3 c111_93) g3 g4 rfl ?_
        refine p_ild (cc3 c111_94) rfl ?_
        refine p_bin (cc3 c111_96) ?_
        refine p_asti (cc3 c111_97) g3 g4 mm_xpi ?_
        refine p_ald (cc3 c111_98) rfl ?_
        obtain ⟨g5, h⟩ := h
        refine p_getp (cc3 c111_99) g1 rfl g5 ?_
        refine p_ild (cc3 c111_102) rfl ?_
        refine p_ild (cc3 c111_103) rfl ?_
        obtain ⟨g6, h⟩ := h
        obtain ⟨g7, h⟩ := h
        refine p_asti (cc3 c111_105) g6 g7 mm_xpi ?_
        refine p_ald (cc3 c111_106) rfl ?_
        refine p_ild (cc3 c111_107) rfl ?_
        refine p_push (cc3 c111_108) ?_
        refine p_bin (cc3 c111_109) ?_
        refine p_ild (cc3 c111_110) rfl ?_
        refine p_push (cc3 c111_111) ?_
        refine p_bin (cc3 c111_112) ?_
        refine p_ild (cc3 c111_113) rfl ?_
        refine p_push (cc3 c111_114) ?_
        refine p_ild (cc3 c111_115) rfl ?_
        refine p_bin (cc3 c111_117) ?_
        refine p_bin (cc3 c111_118) ?_
        obtain ⟨κ', ρ', he, h⟩ := h
        exact p_callV (cc3 c111_119) (Nat.le_of_ble_eq_true rfl) rfl rfl (Nat.le_of_ble_eq_true rfl) g1 he h
theorem B111_122 {ev : xV} {Q : Option Value → xM → Prop} {sz sl : Nat} {K L : Nat → Nat} {κ : Nat → Nat → Int32} {ρ : Nat → Nat → Nat} {x1 x2 x3 x4 x5 : Int32} {a0 : Nat} (h : (K a0 = 2) ∧ (¬ ρ a0 1 = 0) ∧ (K (ρ a0 1) = 20) ∧ (vp_in x5 (L (ρ a0 1))) ∧ wpE (xT 111) ev Q (62, [(0, .ref a0), (1, .int x1), (2, .int x2), (3, .int x3), (4, .int x4), (5, .int (x5 + 1))], [], Mm sz sl K L (U κ (ρ a0 1) x5.toNatClampNeg ((κ (ρ a0 1) x5.toNatClampNeg) + x4)) ρ)) : wpE (xT 111) ev Q (122, [(0, .ref a0), (1, .int x1), (2, .int x2), (3, .int x3), (4, .int x4), (5, .int x5)], [], Mm sz sl K L κ ρ) := by
  refine p_ald (cc3 c111_122) rfl ?_
  obtain ⟨g1, h⟩ := h
  obtain ⟨g2, h⟩ := h
  refine p_getp (cc3 c111_123) g1 rfl g2 ?_
  refine p_ild (cc3 c111_126) rfl ?_
  refine p_dup2 (cc3 c111_128) rfl rfl ?_
  obtain ⟨g3, h⟩ := h
  obtain ⟨g4, h⟩ := h
  refine p_aldi (cc3 c111_129) g3 g4 rfl ?_
  refine p_ild (cc3 c111_130) rfl ?_
  refine p_bin (cc3 c111_132) ?_
  refine p_asti (cc3 c111_133) g3 g4 mm_xpi ?_
  refine p_iinc (y := x5 + 1) (ls' := [(5, .int (x5 + 1)), (0, .ref a0), (1, .int x1), (2, .int x2), (3, .int x3), (4, .int x4)]) (cct c111_134 rfl) (by decide) rfl rfl rfl ?_
  refine p_goto (cc3 c111_137) ?_
  exact p_lc (ls' := [(0, .ref a0), (1, .int x1), (2, .int x2), (3, .int x3), (4, .int x4), (5, .int (x5 + 1))]) c111_62 rfl rfl h
theorem B111_156 {ev : xV} {Q : Option Value → xM → Prop} {sz sl : Nat} {K L : Nat → Nat} {κ : Nat → Nat → Int32} {ρ : Nat → Nat → Nat} {x1 x2 x3 : Int32} {a0 : Nat} (h : Q none (Mm sz sl K L κ ρ)) : wpE (xT 111) ev Q (156, [(0, .ref a0), (1, .int x1), (2, .int x2), (3, .int x3)], [], Mm sz sl K L κ ρ) := by
  exact p_rv (cc3 c111_156) h
theorem B112_0 {ev : xV} {Q : Option Value → xM → Prop} {sz sl : Nat} {K L : Nat → Nat} {κ : Nat → Nat → Int32} {ρ : Nat → Nat → Nat} {x1 : Int32} {a0 : Nat} (h : wpE (xT 112) ev Q (4, [(0, .ref a0), (1, .int x1), (2, .int 0), (3, .int 0)], [], Mm sz sl K L κ ρ)) : wpE (xT 112) ev Q (0, [(0, .ref a0), (1, .int x1)], [], Mm sz sl K L κ ρ) := by
  refine p_push (cc3 c112_0) ?_
  refine p_ist (ls' := [(2, .int 0), (0, .ref a0), (1, .int x1)]) (cc3 c112_1) (by decide) rfl ?_
  refine p_push (cc3 c112_2) ?_
  refine p_ist (ls' := [(3, .int 0), (2, .int 0), (0, .ref a0), (1, .int x1)]) (cc3 c112_3) (by decide) rfl ?_
  exact p_lc (ls' := [(0, .ref a0), (1, .int x1), (2, .int 0), (3, .int 0)]) c112_4 rfl rfl h
theorem B112_4 {ev : xV} {Q : Option Value → xM → Prop} {sz sl : Nat} {K L : Nat → Nat} {κ : Nat → Nat → Int32} {ρ : Nat → Nat → Nat} {x1 x2 x3 : Int32} {a0 : Nat} (h : ((4 ≤ x3) → wpE (xT 112) ev Q (31, [(0, .ref a0), (2, .int x2), (3, .int 0), (4, .int x1)], [], Mm sz sl K L κ ρ)) ∧ (¬ (4 ≤ x3) → (K a0 = 2) ∧ (¬ ρ a0 1 = 0) ∧ (K (ρ a0 1) = 20) ∧ (vp_in x3 (L (ρ a0 1))) ∧ (∃ r κ' ρ', ev 61 [.int x2, .int (κ (ρ a0 1) x3.toNatClampNeg)] (Mm sz sl K L κ ρ) (some (.int r)) (Mm sz sl K L κ' ρ') ∧ wpE (xT 112) ev Q (19, [(0, .ref a0), (1, .int x1), (2, .int x2), (3, .int x3)], [.int r], Mm sz sl K L κ' ρ')))) : wpE (xT 112) ev Q (4, [(0, .ref a0), (1, .int x1), (2, .int x2), (3, .int x3)], [], Mm sz sl K L κ ρ) := by
  refine p_ild (cct c112_4 rfl) rfl ?_
  refine p_push (cc3 c112_5) ?_
  refine p_icmp (cc3 c112_6) (fun c => ?_) (fun c => ?_)
  · have h := h.1 c
    refine p_push (cc3 c112_26) ?_
    refine p_ist (ls' := [(3, .int 0), (0, .ref a0), (1, .int x1), (2, .int x2)]) (cc3 c112_27) (by decide) rfl ?_
    refine p_ild (cc3 c112_28) rfl ?_
    refine p_ist (ls' := [(4, .int x1), (3, .int 0), (0, .ref a0), (1, .int x1), (2, .int x2)]) (cc3 c112_29) (by decide) rfl ?_
    exact p_lc (ls' := [(0, .ref a0), (2, .int x2), (3, .int 0), (4, .int x1)]) c112_31 rfl rfl h
  · have h := h.2 c
    refine p_ild (cc3 c112_9) rfl ?_
    refine p_ald (cc3 c112_10) rfl ?_
    obtain ⟨g1, h⟩ := h
    obtain ⟨g2, h⟩ := h
    refine p_getp (cc3 c112_11) g1 rfl g2 ?_
    refine p_ild (cc3 c112_14) rfl ?_
    obtain ⟨g3, h⟩ := h
    obtain ⟨g4, h⟩ := h
    refine p_aldi (cc3 c112_15) g3 g4 rfl ?_
    obtain ⟨r, κ', ρ', he, h⟩ := h
    exact p_callS (cc3 c112_16) (Nat.le_of_ble_eq_true rfl) rfl rfl (Nat.le_of_ble_eq_true rfl) he h
theorem B112_19 {ev : xV} {Q : Option Value → xM → Prop} {sz sl : Nat} {K L : Nat → Nat} {κ : Nat → Nat → Int32} {ρ : Nat → Nat → Nat} {x1 x2 x3 s0 : Int32} {a0 : Nat} (h : wpE (xT 112) ev Q (4, [(0, .ref a0), (1, .int x1), (2, .int s0), (3, .int (x3 + 1))], [], Mm sz sl K L κ ρ)) : wpE (xT 112) ev Q (19, [(0, .ref a0), (1, .int x1), (2, .int x2), (3, .int x3)], [.int s0], Mm sz sl K L κ ρ) := by
  refine p_ist (ls' := [(2, .int s0), (0, .ref a0), (1, .int x1), (3, .int x3)]) (cc3 c112_19) (by decide) rfl ?_
  refine p_iinc (y := x3 + 1) (ls' := [(3, .int (x3 + 1)), (2, .int s0), (0, .ref a0), (1, .int x1)]) (cc3 c112_20) (by decide) rfl rfl rfl ?_
  refine p_goto (cc3 c112_23) ?_
  exact p_lc (ls' := [(0, .ref a0), (1, .int x1), (2, .int s0), (3, .int (x3 + 1))]) c112_4 rfl rfl h
theorem B112_31 {ev : xV} {Q : Option Value → xM → Prop} {sz sl : Nat} {K L : Nat → Nat} {κ : Nat → Nat → Int32} {ρ : Nat → Nat → Nat} {x2 x3 x4 : Int32} {a0 : Nat} (h : ((8 ≤ x4) → Q (some (.int x3)) (Mm sz sl K L κ ρ)) ∧ (¬ (8 ≤ x4) → (K a0 = 2) ∧ (¬ ρ a0 0 = 0) ∧ (K (ρ a0 0) = 20) ∧ (vp_in x4 (L (ρ a0 0))) ∧ (((κ (ρ a0 0) x4.toNatClampNeg) = (-1)) → wpE (xT 112) ev Q (31, [(0, .ref a0), (2, .int x2), (3, .int x3), (4, .int (x4 + 1))], [], Mm sz sl K L κ ρ)) ∧ (¬ ((κ (ρ a0 0) x4.toNatClampNeg) = (-1)) → ((x2 < (κ (ρ a0 0) x4.toNatClampNeg)) → wpE (xT 112) ev Q (31, [(0, .ref a0), (2, .int x2), (3, .int x3), (4, .int (x4 + 1))], [], Mm sz sl K L κ ρ)) ∧ (¬ (x2 < (κ (ρ a0 0) x4.toNatClampNeg)) → wpE (xT 112) ev Q (31, [(0, .ref a0), (2, .int x2), (3, .int (x3 + 1)), (4, .int (x4 + 1))], [], Mm sz sl K L κ ρ))))) : wpE (xT 112) ev Q (31, [(0, .ref a0), (2, .int x2), (3, .int x3), (4, .int x4)], [], Mm sz sl K L κ ρ) := by
  refine p_ild (cct c112_31 rfl) rfl ?_
  refine p_push (cc3 c112_33) ?_
  refine p_icmp (cc3 c112_35) (fun c => ?_) (fun c => ?_)
  · have h := h.1 c
    refine p_ild (cc3 c112_69) rfl ?_
    exact p_ri (cc3 c112_70) trivial h
  · have h := h.2 c
    refine p_ald (cc3 c112_38) rfl ?_
    obtain ⟨g1, h⟩ := h
    obtain ⟨g2, h⟩ := h
    refine p_getp (cc3 c112_39) g1 rfl g2 ?_
    refine p_ild (cc3 c112_42) rfl ?_
    obtain ⟨g3, h⟩ := h
    obtain ⟨g4, h⟩ := h
    refine p_aldi (cc3 c112_44) g3 g4 rfl ?_
    refine p_push (cc3 c112_45) ?_
    refine p_icmp (cc3 c112_46) (fun c => ?_) (fun c => ?_)
    · have h := h.1 c
      refine p_iinc (y := x4 + 1) (ls' := [(4, .int (x4 + 1)), (0, .ref a0), (2, .int x2), (3, .int x3)]) (cct c112_63 rfl) (by decide) rfl rfl rfl ?_
      refine p_goto (cc3 c112_66) ?_
      exact p_lc (ls' := [(0, .ref a0), (2, .int x2), (3, .int x3), (4, .int (x4 + 1))]) c112_31 rfl rfl h
    · have h := h.2 c
      refine p_ald (cc3 c112_49) rfl ?_
      refine p_getp (cc3 c112_50) g1 rfl g2 ?_
      refine p_ild (cc3 c112_53) rfl ?_
      refine p_aldi (cc3 c112_55) g3 g4 rfl ?_
      refine p_ild (cc3 c112_56) rfl ?_
      refine p_icmp (cc3 c112_57) (fun c => ?_) (fun c => ?_)
      · have h := h.1 c
        refine p_iinc (y := x4 + 1) (ls' := [(4, .int (x4 + 1)), (0, .ref a0), (2, .int x2), (3, .int x3)]) (cct c112_63 rfl) (by decide) rfl rfl rfl ?_
        refine p_goto (cc3 c112_66) ?_
        exact p_lc (ls' := [(0, .ref a0), (2, .int x2), (3, .int x3), (4, .int (x4 + 1))]) c112_31 rfl rfl h
      · have h := h.2 c
        refine p_iinc (y := x3 + 1) (ls' := [(3, .int (x3 + 1)), (0, .ref a0), (2, .int x2), (4, .int x4)]) (cc3 c112_60) (by decide) rfl rfl rfl ?_
        refine p_lc (ls' := [(0, .ref a0), (2, .int x2), (3, .int (x3 + 1)), (4, .int x4)]) c112_63 rfl rfl ?_
        refine p_iinc (y := x4 + 1) (ls' := [(4, .int (x4 + 1)), (0, .ref a0), (2, .int x2), (3, .int (x3 + 1))]) (cct c112_63 rfl) (by decide) rfl rfl rfl ?_
        refine p_goto (cc3 c112_66) ?_
        exact p_lc (ls' := [(0, .ref a0), (2, .int x2), (3, .int (x3 + 1)), (4, .int (x4 + 1))]) c112_31 rfl rfl h
theorem B113_0 {ev : xV} {Q : Option Value → xM → Prop} {sz sl : Nat} {K L : Nat → Nat} {κ : Nat → Nat → Int32} {ρ : Nat → Nat → Nat} {x1 x2 : Int32} {a0 : Nat} (h : (K a0 = 2) ∧ (((κ a0 4) < x1) → Q (some (.int 1)) (Mm sz sl K L κ ρ)) ∧ (¬ ((κ a0 4) < x1) → ((x1 = (κ a0 4)) → (∃ r κ' ρ', ev 114 [.int x2] (Mm sz sl K L κ ρ) (some (.int r)) (Mm sz sl K L κ' ρ') ∧ wpE (xT 113) ev Q (20, [(0, .ref a0), (1, .int x1), (2, .int x2)], [.int r], Mm sz sl K L κ' ρ'))) ∧ (¬ (x1 = (κ a0 4)) → Q (some (.int 0)) (Mm sz sl K L κ ρ)))) : wpE (xT 113) ev Q (0, [(0, .ref a0), (1, .int x1), (2, .int x2)], [], Mm sz sl K L κ ρ) := by
  refine p_ild (cc3 c113_0) rfl ?_
  refine p_ald (cc3 c113_1) rfl ?_
  obtain ⟨g1, h⟩ := h
  refine p_geti (cc3 c113_2) g1 rfl ?_
  refine p_icmp (cc3 c113_5) (fun c => ?_) (fun c => ?_)
  · have h := h.1 c
    refine p_lc (ls' := []) c113_27 rfl rfl ?_
    refine p_push (cct c113_27 rfl) ?_
    refine p_goto (cc3 c113_28) ?_
    exact p_ri (cct c113_32 rfl) (by decide) h
  · have h := h.2 c
    refine p_ild (cc3 c113_8) rfl ?_
    refine p_ald (cc3 c113_9) rfl ?_
    refine p_geti (cc3 c113_10) g1 rfl ?_
    refine p_icmp (cc3 c113_13) (fun c => ?_) (fun c => ?_)
    · have h := h.1 c
      refine p_ild (cc3 c113_16) rfl ?_
      obtain ⟨r, κ', ρ', he, h⟩ := h
      exact p_callS (cc3 c113_17) (Nat.le_of_ble_eq_true rfl) rfl rfl (Nat.le_of_ble_eq_true rfl) he h
    · have h := h.2 c
      refine p_lc (ls' := []) c113_31 rfl rfl ?_
      refine p_push (cct c113_31 rfl) ?_
      exact p_ri (cct c113_32 rfl) (by decide) h
theorem B113_20 {ev : xV} {Q : Option Value → xM → Prop} {sz sl : Nat} {K L : Nat → Nat} {κ : Nat → Nat → Int32} {ρ : Nat → Nat → Nat} {x1 x2 s0 : Int32} {a0 : Nat} (h : (K a0 = 2) ∧ (((κ a0 5) ≤ s0) → Q (some (.int 0)) (Mm sz sl K L κ ρ)) ∧ (¬ ((κ a0 5) ≤ s0) → Q (some (.int 1)) (Mm sz sl K L κ ρ))) : wpE (xT 113) ev Q (20, [(0, .ref a0), (1, .int x1), (2, .int x2)], [.int s0], Mm sz sl K L κ ρ) := by
  refine p_ald (cc3 c113_20) rfl ?_
  obtain ⟨g1, h⟩ := h
  refine p_geti (cc3 c113_21) g1 rfl ?_
  refine p_icmp (cc3 c113_24) (fun c => ?_) (fun c => ?_)
  · have h := h.1 c
    refine p_lc (ls' := []) c113_31 rfl rfl ?_
    refine p_push (cct c113_31 rfl) ?_
    exact p_ri (cct c113_32 rfl) (by decide) h
  · have h := h.2 c
    refine p_lc (ls' := []) c113_27 rfl rfl ?_
    refine p_push (cct c113_27 rfl) ?_
    refine p_goto (cc3 c113_28) ?_
    exact p_ri (cct c113_32 rfl) (by decide) h
theorem B114_0 {ev : xV} {Q : Option Value → xM → Prop} {sz sl : Nat} {K L : Nat → Nat} {κ : Nat → Nat → Int32} {ρ : Nat → Nat → Nat} {x0 : Int32} (h : Q (some (.int ((((((((x0 - (((x0.toUInt32 >>> ((1 : Int32).toUInt32 &&& Int32.toUInt32 31)).toInt32) &&& (1431655765 : Int32))) &&& (858993459 : Int32)) + ((((x0 - (((x0.toUInt32 >>> ((1 : Int32).toUInt32 &&& Int32.toUInt32 31)).toInt32) &&& (1431655765 : Int32))).toUInt32 >>> ((2 : Int32).toUInt32 &&& Int32.toUInt32 31)).toInt32) &&& (858993459 : Int32))) + (((((x0 - (((x0.toUInt32 >>> ((1 : Int32).toUInt32 &&& Int32.toUInt32 31)).toInt32) &&& (1431655765 : Int32))) &&& (858993459 : Int32)) + ((((x0 - (((x0.toUInt32 >>> ((1 : Int32).toUInt32 &&& Int32.toUInt32 31)).toInt32) &&& (1431655765 : Int32))).toUInt32 >>> ((2 : Int32).toUInt32 &&& Int32.toUInt32 31)).toInt32) &&& (858993459 : Int32))).toUInt32 >>> ((4 : Int32).toUInt32 &&& Int32.toUInt32 31)).toInt32)) &&& (252645135 : Int32)) + (((((((x0 - (((x0.toUInt32 >>> ((1 : Int32).toUInt32 &&& Int32.toUInt32 31)).toInt32) &&& (1431655765 : Int32))) &&& (858993459 : Int32)) + ((((x0 - (((x0.toUInt32 >>> ((1 : Int32).toUInt32 &&& Int32.toUInt32 31)).toInt32) &&& (1431655765 : Int32))).toUInt32 >>> ((2 : Int32).toUInt32 &&& Int32.toUInt32 31)).toInt32) &&& (858993459 : Int32))) + (((((x0 - (((x0.toUInt32 >>> ((1 : Int32).toUInt32 &&& Int32.toUInt32 31)).toInt32) &&& (1431655765 : Int32))) &&& (858993459 : Int32)) + ((((x0 - (((x0.toUInt32 >>> ((1 : Int32).toUInt32 &&& Int32.toUInt32 31)).toInt32) &&& (1431655765 : Int32))).toUInt32 >>> ((2 : Int32).toUInt32 &&& Int32.toUInt32 31)).toInt32) &&& (858993459 : Int32))).toUInt32 >>> ((4 : Int32).toUInt32 &&& Int32.toUInt32 31)).toInt32)) &&& (252645135 : Int32)).toUInt32 >>> ((8 : Int32).toUInt32 &&& Int32.toUInt32 31)).toInt32)) + ((((((((x0 - (((x0.toUInt32 >>> ((1 : Int32).toUInt32 &&& Int32.toUInt32 31)).toInt32) &&& (1431655765 : Int32))) &&& (858993459 : Int32)) + ((((x0 - (((x0.toUInt32 >>> ((1 : Int32).toUInt32 &&& Int32.toUInt32 31)).toInt32) &&& (1431655765 : Int32))).toUInt32 >>> ((2 : Int32).toUInt32 &&& Int32.toUInt32 31)).toInt32) &&& (858993459 : Int32))) + (((((x0 - (((x0.toUInt32 >>> ((1 : Int32).toUInt32 &&& Int32.toUInt32 31)).toInt32) &&& (1431655765 : Int32))) &&& (858993459 : Int32)) + ((((x0 - (((x0.toUInt32 >>> ((1 : Int32).toUInt32 &&& Int32.toUInt32 31)).toInt32) &&& (1431655765 : Int32))).toUInt32 >>> ((2 : Int32).toUInt32 &&& Int32.toUInt32 31)).toInt32) &&& (858993459 : Int32))).toUInt32 >>> ((4 : Int32).toUInt32 &&& Int32.toUInt32 31)).toInt32)) &&& (252645135 : Int32)) + (((((((x0 - (((x0.toUInt32 >>> ((1 : Int32).toUInt32 &&& Int32.toUInt32 31)).toInt32) &&& (1431655765 : Int32))) &&& (858993459 : Int32)) + ((((x0 - (((x0.toUInt32 >>> ((1 : Int32).toUInt32 &&& Int32.toUInt32 31)).toInt32) &&& (1431655765 : Int32))).toUInt32 >>> ((2 : Int32).toUInt32 &&& Int32.toUInt32 31)).toInt32) &&& (858993459 : Int32))) + (((((x0 - (((x0.toUInt32 >>> ((1 : Int32).toUInt32 &&& Int32.toUInt32 31)).toInt32) &&& (1431655765 : Int32))) &&& (858993459 : Int32)) + ((((x0 - (((x0.toUInt32 >>> ((1 : Int32).toUInt32 &&& Int32.toUInt32 31)).toInt32) &&& (1431655765 : Int32))).toUInt32 >>> ((2 : Int32).toUInt32 &&& Int32.toUInt32 31)).toInt32) &&& (858993459 : Int32))).toUInt32 >>> ((4 : Int32).toUInt32 &&& Int32.toUInt32 31)).toInt32)) &&& (252645135 : Int32)).toUInt32 >>> ((8 : Int32).toUInt32 &&& Int32.toUInt32 31)).toInt32)).toUInt32 >>> ((16 : Int32).toUInt32 &&& Int32.toUInt32 31)).toInt32)) &&& (63 : Int32)))) (Mm sz sl K L κ ρ)) : wpE (xT 114) ev Q (0, [(0, .int x0)], [], Mm sz sl K L κ ρ) := by
  refine p_ild (cc3 c114_0) rfl ?_
  refine p_ild (cc3 c114_1) rfl ?_
  refine p_push (cc3 c114_2) ?_
  refine p_bin (cc3 c114_3) ?_
  refine p_push (cc3 c114_4) ?_
  refine p_bin (cc3 c114_7) ?_
  refine p_bin (cc3 c114_8) ?_
  refine p_ist (ls' := [(0, .int (x0 - (((x0.toUInt32 >>> ((1 : Int32).toUInt32 &&& Int32.toUInt32 31)).toInt32) &&& (1431655765 : Int32))))]) (cc3 c114_9) (by decide) rfl ?_
  refine p_ild (cc3 c114_10) rfl ?_
  refine p_push (cc3 c114_11) ?_
  refine p_bin (cc3 c114_14) ?_
  refine p_ild (cc3 c114_15) rfl ?_
  refine p_push (cc3 c114_16) ?_
  refine p_bin (cc3 c114_17) ?_
  refine p_push (cc3 c114_18) ?_
  refine p_bin (cc3 c114_21) ?_
  refine p_bin (cc3 c114_22) ?_
  refine p_ist (ls' := [(0, .int (((x0 - (((x0.toUInt32 >>> ((1 : Int32).toUInt32 &&& Int32.toUInt32 31)).toInt32) &&& (1431655765 : Int32))) &&& (858993459 : Int32)) + ((((x0 - (((x0.toUInt32 >>> ((1 : Int32).toUInt32 &&& Int32.toUInt32 31)).toInt32) &&& (1431655765 : Int32))).toUInt32 >>> ((2 : Int32).toUInt32 &&& Int32.toUInt32 31)).toInt32) &&& (858993459 : Int32))))]) (cc3 c114_23) (by decide) rfl ?_
  refine p_ild (cc3 c114_24) rfl ?_
  refine p_ild (cc3 c114_25) rfl ?_
  refine p_push (cc3 c114_26) ?_
  refine p_bin (cc3 c114_27) ?_
  refine p_bin (cc3 c114_28) ?_
  refine p_push (cc3 c114_29) ?_
  refine p_bin (cc3 c114_32) ?_
  refine p_ist (ls' := [(0, .int (((((x0 - (((x0.toUInt32 >>> ((1 : Int32).toUInt32 &&& Int32.toUInt32 31)).toInt32) &&& (1431655765 : Int32))) &&& (858993459 : Int32)) + ((((x0 - (((x0.toUInt32 >>> ((1 : Int32).toUInt32 &&& Int32.toUInt32 31)).toInt32) &&& (1431655765 : Int32))).toUInt32 >>> ((2 : Int32).toUInt32 &&& Int32.toUInt32 31)).toInt32) &&& (858993459 : Int32))) + (((((x0 - (((x0.toUInt32 >>> ((1 : Int32).toUInt32 &&& Int32.toUInt32 31)).toInt32) &&& (1431655765 : Int32))) &&& (858993459 : Int32)) + ((((x0 - (((x0.toUInt32 >>> ((1 : Int32).toUInt32 &&& Int32.toUInt32 31)).toInt32) &&& (1431655765 : Int32))).toUInt32 >>> ((2 : Int32).toUInt32 &&& Int32.toUInt32 31)).toInt32) &&& (858993459 : Int32))).toUInt32 >>> ((4 : Int32).toUInt32 &&& Int32.toUInt32 31)).toInt32)) &&& (252645135 : Int32)))]) (cc3 c114_33) (by decide) rfl ?_
  refine p_ild (cc3 c114_34) rfl ?_
  refine p_ild (cc3 c114_35) rfl ?_
  refine p_push (cc3 c114_36) ?_
  refine p_bin (cc3 c114_38) ?_
  refine p_bin (cc3 c114_39) ?_
  refine p_ist (ls' := [(0, .int ((((((x0 - (((x0.toUInt32 >>> ((1 : Int32).toUInt32 &&& Int32.toUInt32 31)).toInt32) &&& (1431655765 : Int32))) &&& (858993459 : Int32)) + ((((x0 - (((x0.toUInt32 >>> ((1 : Int32).toUInt32 &&& Int32.toUInt32 31)).toInt32) &&& (1431655765 : Int32))).toUInt32 >>> ((2 : Int32).toUInt32 &&& Int32.toUInt32 31)).toInt32) &&& (858993459 : Int32))) + (((((x0 - (((x0.toUInt32 >>> ((1 : Int32).toUInt32 &&& Int32.toUInt32 31)).toInt32) &&& (1431655765 : Int32))) &&& (858993459 : Int32)) + ((((x0 - (((x0.toUInt32 >>> ((1 : Int32).toUInt32 &&& Int32.toUInt32 31)).toInt32) &&& (1431655765 : Int32))).toUInt32 >>> ((2 : Int32).toUInt32 &&& Int32.toUInt32 31)).toInt32) &&& (858993459 : Int32))).toUInt32 >>> ((4 : Int32).toUInt32 &&& Int32.toUInt32 31)).toInt32)) &&& (252645135 : Int32)) + (((((((x0 - (((x0.toUInt32 >>> ((1 : Int32).toUInt32 &&& Int32.toUInt32 31)).toInt32) &&& (1431655765 : Int32))) &&& (858993459 : Int32)) + ((((x0 - (((x0.toUInt32 >>> ((1 : Int32).toUInt32 &&& Int32.toUInt32 31)).toInt32) &&& (1431655765 : Int32))).toUInt32 >>> ((2 : Int32).toUInt32 &&& Int32.toUInt32 31)).toInt32) &&& (858993459 : Int32))) + (((((x0 - (((x0.toUInt32 >>> ((1 : Int32).toUInt32 &&& Int32.toUInt32 31)).toInt32) &&& (1431655765 : Int32))) &&& (858993459 : Int32)) + ((((x0 - (((x0.toUInt32 >>> ((1 : Int32).toUInt32 &&& Int32.toUInt32 31)).toInt32) &&& (1431655765 : Int32))).toUInt32 >>> ((2 : Int32).toUInt32 &&& Int32.toUInt32 31)).toInt32) &&& (858993459 : Int32))).toUInt32 >>> ((4 : Int32).toUInt32 &&& Int32.toUInt32 31)).toInt32)) &&& (252645135 : Int32)).toUInt32 >>> ((8 : Int32).toUInt32 &&& Int32.toUInt32 31)).toInt32)))]) (cc3 c114_40) (by decide) rfl ?_
  refine p_ild (cc3 c114_41) rfl ?_
  refine p_ild (cc3 c114_42) rfl ?_
  refine p_push (cc3 c114_43) ?_
  refine p_bin (cc3 c114_45) ?_
  refine p_bin (cc3 c114_46) ?_
  refine p_ist (ls' := [(0, .int (((((((x0 - (((x0.toUInt32 >>> ((1 : Int32).toUInt32 &&& Int32.toUInt32 31)).toInt32) &&& (1431655765 : Int32))) &&& (858993459 : Int32)) + ((((x0 - (((x0.toUInt32 >>> ((1 : Int32).toUInt32 &&& Int32.toUInt32 31)).toInt32) &&& (1431655765 : Int32))).toUInt32 >>> ((2 : Int32).toUInt32 &&& Int32.toUInt32 31)).toInt32) &&& (858993459 : Int32))) + (((((x0 - (((x0.toUInt32 >>> ((1 : Int32).toUInt32 &&& Int32.toUInt32 31)).toInt32) &&& (1431655765 : Int32))) &&& (858993459 : Int32)) + ((((x0 - (((x0.toUInt32 >>> ((1 : Int32).toUInt32 &&& Int32.toUInt32 31)).toInt32) &&& (1431655765 : Int32))).toUInt32 >>> ((2 : Int32).toUInt32 &&& Int32.toUInt32 31)).toInt32) &&& (858993459 : Int32))).toUInt32 >>> ((4 : Int32).toUInt32 &&& Int32.toUInt32 31)).toInt32)) &&& (252645135 : Int32)) + (((((((x0 - (((x0.toUInt32 >>> ((1 : Int32).toUInt32 &&& Int32.toUInt32 31)).toInt32) &&& (1431655765 : Int32))) &&& (858993459 : Int32)) + ((((x0 - (((x0.toUInt32 >>> ((1 : Int32).toUInt32 &&& Int32.toUInt32 31)).toInt32) &&& (1431655765 : Int32))).toUInt32 >>> ((2 : Int32).toUInt32 &&& Int32.toUInt32 31)).toInt32) &&& (858993459 : Int32))) + (((((x0 - (((x0.toUInt32 >>> ((1 : Int32).toUInt32 &&& Int32.toUInt32 31)).toInt32) &&& (1431655765 : Int32))) &&& (858993459 : Int32)) + ((((x0 - (((x0.toUInt32 >>> ((1 : Int32).toUInt32 &&& Int32.toUInt32 31)).toInt32) &&& (1431655765 : Int32))).toUInt32 >>> ((2 : Int32).toUInt32 &&& Int32.toUInt32 31)).toInt32) &&& (858993459 : Int32))).toUInt32 >>> ((4 : Int32).toUInt32 &&& Int32.toUInt32 31)).toInt32)) &&& (252645135 : Int32)).toUInt32 >>> ((8 : Int32).toUInt32 &&& Int32.toUInt32 31)).toInt32)) + ((((((((x0 - (((x0.toUInt32 >>> ((1 : Int32).toUInt32 &&& Int32.toUInt32 31)).toInt32) &&& (1431655765 : Int32))) &&& (858993459 : Int32)) + ((((x0 - (((x0.toUInt32 >>> ((1 : Int32).toUInt32 &&& Int32.toUInt32 31)).toInt32) &&& (1431655765 : Int32))).toUInt32 >>> ((2 : Int32).toUInt32 &&& Int32.toUInt32 31)).toInt32) &&& (858993459 : Int32))) + (((((x0 - (((x0.toUInt32 >>> ((1 : Int32).toUInt32 &&& Int32.toUInt32 31)).toInt32) &&& (1431655765 : Int32))) &&& (858993459 : Int32)) + ((((x0 - (((x0.toUInt32 >>> ((1 : Int32).toUInt32 &&& Int32.toUInt32 31)).toInt32) &&& (1431655765 : Int32))).toUInt32 >>> ((2 : Int32).toUInt32 &&& Int32.toUInt32 31)).toInt32) &&& (858993459 : Int32))).toUInt32 >>> ((4 : Int32).toUInt32 &&& Int32.toUInt32 31)).toInt32)) &&& (252645135 : Int32)) + (((((((x0 - (((x0.toUInt32 >>> ((1 : Int32).toUInt32 &&& Int32.toUInt32 31)).toInt32) &&& (1431655765 : Int32))) &&& (858993459 : Int32)) + ((((x0 - (((x0.toUInt32 >>> ((1 : Int32).toUInt32 &&& Int32.toUInt32 31)).toInt32) &&& (1431655765 : Int32))).toUInt32 >>> ((2 : Int32).toUInt32 &&& Int32.toUInt32 31)).toInt32) &&& (858993459 : Int32))) + (((((x0 - (((x0.toUInt32 >>> ((1 : Int32).toUInt32 &&& Int32.toUInt32 31)).toInt32) &&& (1431655765 : Int32))) &&& (858993459 : Int32)) + ((((x0 - (((x0.toUInt32 >>> ((1 : Int32).toUInt32 &&& Int32.toUInt32 31)).toInt32) &&& (1431655765 : Int32))).toUInt32 >>> ((2 : Int32).toUInt32 &&& Int32.toUInt32 31)).toInt32) &&& (858993459 : Int32))).toUInt32 >>> ((4 : Int32).toUInt32 &&& Int32.toUInt32 31)).toInt32)) &&& (252645135 : Int32)).toUInt32 >>> ((8 : Int32).toUInt32 &&& Int32.toUInt32 31)).toInt32)).toUInt32 >>> ((16 : Int32).toUInt32 &&& Int32.toUInt32 31)).toInt32)))]) (cc3 c114_47) (by decide) rfl ?_
  refine p_ild (cc3 c114_48) rfl ?_
  refine p_push (cc3 c114_49) ?_
  refine p_bin (cc3 c114_51) ?_
  exact p_ri (cc3 c114_52) trivial h
theorem B115_0 {ev : xV} {Q : Option Value → xM → Prop} {sz sl : Nat} {K L : Nat → Nat} {κ : Nat → Nat → Int32} {ρ : Nat → Nat → Nat} {x1 : Int32} {a0 : Nat} (h : ((x1 < 0) → Q (some (.int ((-1)))) (Mm sz sl K L κ ρ)) ∧ (¬ (x1 < 0) → ((x1 < 8) → (K a0 = 12) ∧ (¬ ρ a0 4 = 0) ∧ (K (ρ a0 4) = 2) ∧ (¬ ρ (ρ a0 4) 2 = 0) ∧ (K (ρ (ρ a0 4) 2) = 20) ∧ (vp_in x1 (L (ρ (ρ a0 4) 2))) ∧ Q (some (.int (κ (ρ (ρ a0 4) 2) x1.toNatClampNeg))) (Mm sz sl K L κ ρ)) ∧ (¬ (x1 < 8) → Q (some (.int ((-1)))) (Mm sz sl K L κ ρ)))) : wpE (xT 115) ev Q (0, [(0, .ref a0), (1, .int x1)], [], Mm sz sl K L κ ρ) := by
  refine p_ild (cc3 c115_0) rfl ?_
  refine p_if (cc3 c115_1) (fun c => ?_) (fun c => ?_)
  · have h := h.1 c
    refine p_lc (ls' := []) c115_10 rfl rfl ?_
    refine p_push (cct c115_10 rfl) ?_
    refine p_goto (cc3 c115_11) ?_
    exact p_ri (cct c115_23 rfl) trivial h
  · have h := h.2 c
    refine p_ild (cc3 c115_4) rfl ?_
    refine p_push (cc3 c115_5) ?_
    refine p_icmp (cc3 c115_7) (fun c => ?_) (fun c => ?_)
    · have h := h.1 c
      refine p_ald (cc3 c115_14) rfl ?_
      obtain ⟨g1, h⟩ := h
      obtain ⟨g2, h⟩ := h
      refine p_getp (cc3 c115_15) g1 rfl g2 ?_
      obtain ⟨g3, h⟩ := h
      obtain ⟨g4, h⟩ := h
      refine p_getp (cc3 c115_18) g3 rfl g4 ?_
      refine p_ild (cc3 c115_21) rfl ?_
      obtain ⟨g5, h⟩ := h
      obtain ⟨g6, h⟩ := h
      refine p_aldi (cc3 c115_22) g5 g6 rfl ?_
      refine p_lc (ls' := []) c115_23 rfl rfl ?_
      exact p_ri (cct c115_23 rfl) trivial h
    · have h := h.2 c
      refine p_lc (ls' := []) c115_10 rfl rfl ?_
      refine p_push (cct c115_10 rfl) ?_
      refine p_goto (cc3 c115_11) ?_
      exact p_ri (cct c115_23 rfl) trivial h
theorem B116_0 {ev : xV} {Q : Option Value → xM → Prop} {sz sl : Nat} {K L : Nat → Nat} {κ : Nat → Nat → Int32} {ρ : Nat → Nat → Nat} {x1 : Int32} {a0 : Nat} (h : ((x1 = 0) → (K a0 = 12) ∧ Q (some (.int (κ a0 10))) (Mm sz sl K L κ ρ)) ∧ (¬ (x1 = 0) → ((x1 = 1) → (K a0 = 12) ∧ Q (some (.int (κ a0 11))) (Mm sz sl K L κ ρ)) ∧ (¬ (x1 = 1) → ((x1 = 2) → (K a0 = 12) ∧ Q (some (.int (κ a0 12))) (Mm sz sl K L κ ρ)) ∧ (¬ (x1 = 2) → ((x1 = 3) → (K a0 = 12) ∧ Q (some (.int (κ a0 13))) (Mm sz sl K L κ ρ)) ∧ (¬ (x1 = 3) → ((x1 = 4) → (K a0 = 12) ∧ (¬ ρ a0 0 = 0) ∧ (K (ρ a0 0) = 9) ∧ Q (some (.int (κ (ρ a0 0) 1))) (Mm sz sl K L κ ρ)) ∧ (¬ (x1 = 4) → ((x1 = 5) → (K a0 = 12) ∧ Q (some (.int (κ a0 14))) (Mm sz sl K L κ ρ)) ∧ (¬ (x1 = 5) → ((x1 = 6) → ((K a0 = 12) ∧ ∃ r κ' ρ', ev 117 [.ref a0] (Mm sz sl K L κ ρ) (some (.int r)) (Mm sz sl K L κ' ρ') ∧ wpE (xT 116) ev Q (81, [(0, .ref a0), (1, .int x1)], [.int r], Mm sz sl K L κ' ρ'))) ∧ (¬ (x1 = 6) → Q (some (.int ((-2)))) (Mm sz sl K L κ ρ))))))))) : wpE (xT 116) ev Q (0, [(0, .ref a0), (1, .int x1)], [], Mm sz sl K L κ ρ) := by
  refine p_ild (cc3 c116_0) rfl ?_
  refine p_sw (cc3 c116_1) ?_
  refine ⟨fun c => ?_, fun c => ?_⟩
  · have h := h.1 c
    refine p_ald (cc3 c116_44) rfl ?_
    obtain ⟨g1, h⟩ := h
    refine p_geti (cc3 c116_45) g1 rfl ?_
    exact p_ri (cc3 c116_48) trivial h
  · have h := h.2 c
    refine ⟨fun c => ?_, fun c => ?_⟩
    · have h := h.1 c
      refine p_ald (cc3 c116_49) rfl ?_
      obtain ⟨g1, h⟩ := h
      refine p_geti (cc3 c116_50) g1 rfl ?_
      exact p_ri (cc3 c116_53) trivial h
    · have h := h.2 c
      refine ⟨fun c => ?_, fun c => ?_⟩
      · have h := h.1 c
        refine p_ald (cc3 c116_54) rfl ?_
        obtain ⟨g1, h⟩ := h
        refine p_geti (cc3 c116_55) g1 rfl ?_
        exact p_ri (cc3 c116_58) trivial h
      · have h := h.2 c
        refine ⟨fun c => ?_, fun c => ?_⟩
        · have h := h.1 c
          refine p_ald (cc3 c116_59) rfl ?_
          obtain ⟨g1, h⟩ := h
          refine p_geti (cc3 c116_60) g1 rfl ?_
          exact p_ri (cc3 c116_63) trivial h
        · have h := h.2 c
          refine ⟨fun c => ?_, fun c => ?_⟩
          · have h := h.1 c
            refine p_ald (cc3 c116_64) rfl ?_
            obtain ⟨g1, h⟩ := h
            obtain ⟨g2, h⟩ := h
            refine p_getp (cc3 c116_65) g1 rfl g2 ?_
            obtain ⟨g3, h⟩ := h
            refine p_geti (cc3 c116_68) g3 rfl ?_
            exact p_ri (cc3 c116_71) trivial h
          · have h := h.2 c
            refine ⟨fun c => ?_, fun c => ?_⟩
            · have h := h.1 c
              refine p_ald (cc3 c116_72) rfl ?_
              obtain ⟨g1, h⟩ := h
              refine p_geti (cc3 c116_73) g1 rfl ?_
              exact p_ri (cc3 c116_76) trivial h
            · have h := h.2 c
              refine ⟨fun c => ?_, fun c => ?_⟩
              · have h := h.1 c
                refine p_ald (cc3 c116_77) rfl ?_
                obtain ⟨g1, h⟩ := h
                obtain ⟨r, κ', ρ', he, h⟩ := h
                exact p_callV (cc3 c116_78) (Nat.le_of_ble_eq_true rfl) rfl rfl (Nat.le_of_ble_eq_true rfl) g1 he h
              · have h := h.2 c
                refine p_push (cc3 c116_82) ?_
                exact p_ri (cc3 c116_84) trivial h
theorem B116_81 {ev : xV} {Q : Option Value → xM → Prop} {sz sl : Nat} {K L : Nat → Nat} {κ : Nat → Nat → Int32} {ρ : Nat → Nat → Nat} {x1 s0 : Int32} {a0 : Nat} (h : Q (some (.int s0)) (Mm sz sl K L κ ρ)) : wpE (xT 116) ev Q (81, [(0, .ref a0), (1, .int x1)], [.int s0], Mm sz sl K L κ ρ) := by
  exact p_ri (cc3 c116_81) trivial h
theorem B117_0 {ev : xV} {Q : Option Value → xM → Prop} {sz sl : Nat} {K L : Nat → Nat} {κ : Nat → Nat → Int32} {ρ : Nat → Nat → Nat} {a0 : Nat} (h : wpE (xT 117) ev Q (4, [(0, .ref a0), (1, .int 0), (2, .int 0)], [], Mm sz sl K L κ ρ)) : wpE (xT 117) ev Q (0, [(0, .ref a0)], [], Mm sz sl K L κ ρ) := by
  refine p_push (cc3 c117_0) ?_
  refine p_ist (ls' := [(1, .int 0), (0, .ref a0)]) (cc3 c117_1) (by decide) rfl ?_
  refine p_push (cc3 c117_2) ?_
  refine p_ist (ls' := [(2, .int 0), (1, .int 0), (0, .ref a0)]) (cc3 c117_3) (by decide) rfl ?_
  exact p_lc (ls' := [(0, .ref a0), (1, .int 0), (2, .int 0)]) c117_4 rfl rfl h
theorem B117_4 {ev : xV} {Q : Option Value → xM → Prop} {sz sl : Nat} {K L : Nat → Nat} {κ : Nat → Nat → Int32} {ρ : Nat → Nat → Nat} {x1 x2 : Int32} {a0 : Nat} (h : (K a0 = 12) ∧ (((κ a0 12) ≤ x2) → Q (some (.int x1)) (Mm sz sl K L κ ρ)) ∧ (¬ ((κ a0 12) ≤ x2) → (∃ v : Value, ∃ κ' ρ', ev 66 [.ref a0, .int x2] (Mm sz sl K L κ ρ) (some (v)) (Mm sz sl K L κ' ρ') ∧ wpE (xT 117) ev Q (17, [(0, .ref a0), (1, .int x1), (2, .int x2)], [v], Mm sz sl K L κ' ρ')))) : wpE (xT 117) ev Q (4, [(0, .ref a0), (1, .int x1), (2, .int x2)], [], Mm sz sl K L κ ρ) := by
  refine p_ild (cct c117_4 rfl) rfl ?_
  refine p_ald (cc3 c117_5) rfl ?_
  obtain ⟨g1, h⟩ := h
  refine p_geti (cc3 c117_6) g1 rfl ?_
  refine p_icmp (cc3 c117_9) (fun c => ?_) (fun c => ?_)
  · have h := h.1 c
    refine p_ild (cc3 c117_38) rfl ?_
    exact p_ri (cc3 c117_39) trivial h
  · have h := h.2 c
    refine p_ald (cc3 c117_12) rfl ?_
    refine p_ild (cc3 c117_13) rfl ?_
    obtain ⟨v, κ', ρ', he, h⟩ := h
    exact p_callV (cc3 c117_14) (Nat.le_of_ble_eq_true rfl) rfl rfl (Nat.le_of_ble_eq_true rfl) g1 he h
theorem B117_17 {ev : xV} {Q : Option Value → xM → Prop} {sz sl : Nat} {K L : Nat → Nat} {κ : Nat → Nat → Int32} {ρ : Nat → Nat → Nat} {x1 x2 : Int32} {a0 b0 : Nat} (h : (K b0 = 3) ∧ ((ρ b0 11 = 0) → wpE (xT 117) ev Q (4, [(0, .ref a0), (1, .int x1), (2, .int (x2 + 1))], [], Mm sz sl K L κ ρ)) ∧ (¬ (ρ b0 11 = 0) → wpE (xT 117) ev Q (4, [(0, .ref a0), (1, .int (x1 + 1)), (2, .int (x2 + 1))], [], Mm sz sl K L κ ρ))) : wpE (xT 117) ev Q (17, [(0, .ref a0), (1, .int x1), (2, .int x2)], [.ref b0], Mm sz sl K L κ ρ) := by
  refine p_ast (ls' := [(3, .ref b0), (0, .ref a0), (1, .int x1), (2, .int x2)]) (cc3 c117_17) (by decide) rfl ?_
  refine p_ald (cc3 c117_18) rfl ?_
  refine p_ifnR (cc3 c117_19) ?_
  refine p_ald (cc3 c117_22) rfl ?_
  obtain ⟨g1, h⟩ := h
  by_cases cz1 : ρ b0 11 = 0
  · have h := h.1 cz1
    refine p_getzN (cc3 c117_23) g1 cz1 ?_
    refine p_ifnN (cc3 c117_26) ?_
    refine p_lc (ls' := [(0, .ref a0), (1, .int x1), (2, .int x2)]) c117_32 rfl rfl ?_
    refine p_iinc (y := x2 + 1) (ls' := [(2, .int (x2 + 1)), (0, .ref a0), (1, .int x1)]) (cct c117_32 rfl) (by decide) rfl rfl rfl ?_
    refine p_goto (cc3 c117_35) ?_
    exact p_lc (ls' := [(0, .ref a0), (1, .int x1), (2, .int (x2 + 1))]) c117_4 rfl rfl h
  · have h := h.2 cz1
    refine p_getz (cc3 c117_23) g1 rfl cz1 ?_
    refine p_ifnR (cc3 c117_26) ?_
    refine p_iinc (y := x1 + 1) (ls' := [(1, .int (x1 + 1)), (3, .ref b0), (0, .ref a0), (2, .int x2)]) (cc3 c117_29) (by decide) rfl rfl rfl ?_
    refine p_lc (ls' := [(0, .ref a0), (1, .int (x1 + 1)), (2, .int x2)]) c117_32 rfl rfl ?_
    refine p_iinc (y := x2 + 1) (ls' := [(2, .int (x2 + 1)), (0, .ref a0), (1, .int (x1 + 1))]) (cct c117_32 rfl) (by decide) rfl rfl rfl ?_
    refine p_goto (cc3 c117_35) ?_
    exact p_lc (ls' := [(0, .ref a0), (1, .int (x1 + 1)), (2, .int (x2 + 1))]) c117_4 rfl rfl h
theorem B117_17n {ev : xV} {Q : Option Value → xM → Prop} {sz sl : Nat} {K L : Nat → Nat} {κ : Nat → Nat → Int32} {ρ : Nat → Nat → Nat} {x1 x2 : Int32} {a0 : Nat} (h : wpE (xT 117) ev Q (4, [(0, .ref a0), (1, .int x1), (2, .int (x2 + 1))], [], Mm sz sl K L κ ρ)) : wpE (xT 117) ev Q (17, [(0, .ref a0), (1, .int x1), (2, .int x2)], [.null], Mm sz sl K L κ ρ) := by
  refine p_astN (ls' := [(3, .null), (0, .ref a0), (1, .int x1), (2, .int x2)]) (cc3 c117_17) (by decide) rfl ?_
  refine p_aldN (cc3 c117_18) rfl ?_
  refine p_ifnN (cc3 c117_19) ?_
  refine p_lc (ls' := [(0, .ref a0), (1, .int x1), (2, .int x2)]) c117_32 rfl rfl ?_
  refine p_iinc (y := x2 + 1) (ls' := [(2, .int (x2 + 1)), (0, .ref a0), (1, .int x1)]) (cct c117_32 rfl) (by decide) rfl rfl rfl ?_
  refine p_goto (cc3 c117_35) ?_
  exact p_lc (ls' := [(0, .ref a0), (1, .int x1), (2, .int (x2 + 1))]) c117_4 rfl rfl h
theorem B118_0 {ev : xV} {Q : Option Value → xM → Prop} {sz sl : Nat} {K L : Nat → Nat} {κ : Nat → Nat → Int32} {ρ : Nat → Nat → Nat} {x1 x2 x3 : Int32} {a0 : Nat} (h : ((K a0 = 12) ∧ ∃ v : Value, ∃ κ' ρ', ev 119 [.ref a0, .int x1] (Mm sz sl K L κ ρ) (some (v)) (Mm sz sl K L κ' ρ') ∧ wpE (xT 118) ev Q (5, [(0, .ref a0), (1, .int x1), (2, .int x2), (3, .int x3)], [v], Mm sz sl K L κ' ρ'))) : wpE (xT 118) ev Q (0, [(0, .ref a0), (1, .int x1), (2, .int x2), (3, .int x3)], [], Mm sz sl K L κ ρ) := by
  refine p_ald (cc3 c118_0) rfl ?_
  refine p_ild (cc3 c118_1) rfl ?_
  obtain ⟨g1, h⟩ := h
  obtain ⟨v, κ', ρ', he, h⟩ := h
  exact p_callV (cc3 c118_2) (Nat.le_of_ble_eq_true rfl) rfl rfl (Nat.le_of_ble_eq_true rfl) g1 he h
theorem B118_5 {ev : xV} {Q : Option Value → xM → Prop} {sz sl : Nat} {K L : Nat → Nat} {κ : Nat → Nat → Int32} {ρ : Nat → Nat → Nat} {x1 x2 x3 : Int32} {a0 b0 : Nat} (h : ((x2 < (-1)) → Q (some (.int ((-2)))) (Mm sz sl K L κ ρ)) ∧ (¬ (x2 < (-1)) → ((x2 ≤ 2) → ((x2 = (-1)) → (K b0 = 8) ∧ Q (some (.int 1)) (Mm sz sl K L (U κ b0 1 (-1)) ρ)) ∧ (¬ (x2 = (-1)) → ((x3 ≤ 40) → ((0 ≤ x3) → ((K b0 = 8) ∧ ∃ κ' ρ', ev 120 [.ref b0, .int x2, .int x3] (Mm sz sl K L κ ρ) none (Mm sz sl K L κ' ρ') ∧ wpE (xT 118) ev Q (61, [(4, .ref b0), (0, .ref a0), (1, .int x1), (2, .int x2), (3, .int x3)], [], Mm sz sl K L κ' ρ'))) ∧ (¬ (0 ≤ x3) → Q (some (.int ((-14)))) (Mm sz sl K L κ ρ))) ∧ (¬ (x3 ≤ 40) → Q (some (.int ((-2)))) (Mm sz sl K L κ ρ)))) ∧ (¬ (x2 ≤ 2) → Q (some (.int ((-2)))) (Mm sz sl K L κ ρ)))) : wpE (xT 118) ev Q (5, [(0, .ref a0), (1, .int x1), (2, .int x2), (3, .int x3)], [.ref b0], Mm sz sl K L κ ρ) := by
  refine p_ast (ls' := [(4, .ref b0), (0, .ref a0), (1, .int x1), (2, .int x2), (3, .int x3)]) (cc3 c118_5) (by decide) rfl ?_
  refine p_ald (cc3 c118_7) rfl ?_
  refine p_ifnR (cc3 c118_9) ?_
  refine p_ild (cc3 c118_12) rfl ?_
  refine p_push (cc3 c118_13) ?_
  refine p_icmp (cc3 c118_14) (fun c => ?_) (fun c => ?_)
  · have h := h.1 c
    refine p_lc (ls' := []) c118_22 rfl rfl ?_
    refine p_push (cct c118_22 rfl) ?_
    exact p_ri (cc3 c118_24) trivial h
  · have h := h.2 c
    refine p_ild (cc3 c118_17) rfl ?_
    refine p_push (cc3 c118_18) ?_
    refine p_icmp (cc3 c118_19) (fun c => ?_) (fun c => ?_)
    · have h := h.1 c
      refine p_ild (cc3 c118_25) rfl ?_
      refine p_push (cc3 c118_26) ?_
      refine p_icmp (cc3 c118_27) (fun c => ?_) (fun c => ?_)
      · have h := h.1 c
        refine p_ald (cc3 c118_30) rfl ?_
        refine p_push (cc3 c118_32) ?_
        obtain ⟨g1, h⟩ := h
        refine p_puti (cc3 c118_33) g1 mm_xpi ?_
        refine p_push (cc3 c118_36) ?_
        exact p_ri (cc3 c118_37) trivial h
      · have h := h.2 c
        refine p_ild (cc3 c118_38) rfl ?_
        refine p_push (cc3 c118_39) ?_
        refine p_icmp (cc3 c118_41) (fun c => ?_) (fun c => ?_)
        · have h := h.1 c
          refine p_ild (cc3 c118_47) rfl ?_
          refine p_if (cc3 c118_48) (fun c => ?_) (fun c => ?_)
          · have h := h.1 c
            refine p_ald (cc3 c118_54) rfl ?_
            refine p_ild (cc3 c118_56) rfl ?_
            refine p_ild (cc3 c118_57) rfl ?_
            obtain ⟨g1, h⟩ := h
            obtain ⟨κ', ρ', he, h⟩ := h
            exact p_callV (cc3 c118_58) (Nat.le_of_ble_eq_true rfl) rfl rfl (Nat.le_of_ble_eq_true rfl) g1 he h
          · have h := h.2 c
            refine p_push (cc3 c118_51) ?_
            exact p_ri (cc3 c118_53) trivial h
        · have h := h.2 c
          refine p_push (cc3 c118_44) ?_
          exact p_ri (cc3 c118_46) trivial h
    · have h := h.2 c
      refine p_lc (ls' := []) c118_22 rfl rfl ?_
      refine p_push (cct c118_22 rfl) ?_
      exact p_ri (cc3 c118_24) trivial h
theorem B118_5n {ev : xV} {Q : Option Value → xM → Prop} {sz sl : Nat} {K L : Nat → Nat} {κ : Nat → Nat → Int32} {ρ : Nat → Nat → Nat} {x1 x2 x3 : Int32} {a0 : Nat} (h : Q (some (.int ((-2)))) (Mm sz sl K L κ ρ)) : wpE (xT 118) ev Q (5, [(0, .ref a0), (1, .int x1), (2, .int x2), (3, .int x3)], [.null], Mm sz sl K L κ ρ) := by
  refine p_astN (ls' := [(4, .null), (0, .ref a0), (1, .int x1), (2, .int x2), (3, .int x3)]) (cc3 c118_5) (by decide) rfl ?_
  refine p_aldN (cc3 c118_7) rfl ?_
  refine p_ifnN (cc3 c118_9) ?_
  refine p_lc (ls' := []) c118_22 rfl rfl ?_
  refine p_push (cct c118_22 rfl) ?_
  exact p_ri (cc3 c118_24) trivial h
theorem B118_61 {ev : xV} {Q : Option Value → xM → Prop} {sz sl : Nat} {K L : Nat → Nat} {κ : Nat → Nat → Int32} {ρ : Nat → Nat → Nat} {x1 x2 x3 : Int32} {a4 a0 : Nat} (h : Q (some (.int 1)) (Mm sz sl K L κ ρ)) : wpE (xT 118) ev Q (61, [(4, .ref a4), (0, .ref a0), (1, .int x1), (2, .int x2), (3, .int x3)], [], Mm sz sl K L κ ρ) := by
  refine p_push (cc3 c118_61) ?_
  exact p_ri (cc3 c118_62) trivial h
theorem B119_0 {ev : xV} {Q : Option Value → xM → Prop} {sz sl : Nat} {K L : Nat → Nat} {κ : Nat → Nat → Int32} {ρ : Nat → Nat → Nat} {x1 : Int32} {a0 : Nat} (h : ((x1 < 0) → Q (some (.null)) (Mm sz sl K L κ ρ)) ∧ (¬ (x1 < 0) → ((x1 < 4) → (K a0 = 12) ∧ (¬ ρ a0 9 = 0) ∧ (K (ρ a0 9) = 27) ∧ (vp_in x1 (L (ρ a0 9))) ∧ (¬ ρ (ρ a0 9) x1.toNatClampNeg = 0) ∧ Q (some (.ref (ρ (ρ a0 9) x1.toNatClampNeg))) (Mm sz sl K L κ ρ)) ∧ (¬ (x1 < 4) → Q (some (.null)) (Mm sz sl K L κ ρ)))) : wpE (xT 119) ev Q (0, [(0, .ref a0), (1, .int x1)], [], Mm sz sl K L κ ρ) := by
  refine p_ild (cc3 c119_0) rfl ?_
  refine p_if (cc3 c119_1) (fun c => ?_) (fun c => ?_)
  · have h := h.1 c
    refine p_lc (ls' := []) c119_9 rfl rfl ?_
    refine p_push (cct c119_9 rfl) ?_
    refine p_goto (cc3 c119_10) ?_
    exact p_raN (cct c119_19 rfl) h
  · have h := h.2 c
    refine p_ild (cc3 c119_4) rfl ?_
    refine p_push (cc3 c119_5) ?_
    refine p_icmp (cc3 c119_6) (fun c => ?_) (fun c => ?_)
    · have h := h.1 c
      refine p_ald (cc3 c119_13) rfl ?_
      obtain ⟨g1, h⟩ := h
      obtain ⟨g2, h⟩ := h
      refine p_getp (cc3 c119_14) g1 rfl g2 ?_
      refine p_ild (cc3 c119_17) rfl ?_
      obtain ⟨g3, h⟩ := h
      obtain ⟨g4, h⟩ := h
      obtain ⟨g5, h⟩ := h
      refine p_aldp (cc3 c119_18) g3 g4 rfl g5 ?_
      refine p_lc (ls' := []) c119_19 rfl rfl ?_
      exact p_ra (cct c119_19 rfl) h
    · have h := h.2 c
      refine p_lc (ls' := []) c119_9 rfl rfl ?_
      refine p_push (cct c119_9 rfl) ?_
      refine p_goto (cc3 c119_10) ?_
      exact p_raN (cct c119_19 rfl) h
theorem B120_0 {ev : xV} {Q : Option Value → xM → Prop} {sz sl : Nat} {K L : Nat → Nat} {κ : Nat → Nat → Int32} {ρ : Nat → Nat → Nat} {x1 x2 : Int32} {a0 : Nat} (h : (K a0 = 8) ∧ (¬ ρ a0 0 = 0) ∧ (∃ κ' ρ', ev 6 [.ref (ρ a0 0), .int 0] (Mm sz sl K L (U (U κ a0 1 x1) a0 2 x2) ρ) none (Mm sz sl K L κ' ρ') ∧ wpE (xT 120) ev Q (18, [(0, .ref a0), (1, .int x1), (2, .int x2)], [], Mm sz sl K L κ' ρ'))) : wpE (xT 120) ev Q (0, [(0, .ref a0), (1, .int x1), (2, .int x2)], [], Mm sz sl K L κ ρ) := by
  refine p_ald (cc3 c120_0) rfl ?_
  refine p_ild (cc3 c120_1) rfl ?_
  obtain ⟨g1, h⟩ := h
  refine p_puti (cc3 c120_2) g1 mm_xpi ?_
  refine p_ald (cc3 c120_5) rfl ?_
  refine p_ild (cc3 c120_6) rfl ?_
  refine p_puti (cc3 c120_7) g1 mm_xpi ?_
  refine p_ald (cc3 c120_10) rfl ?_
  obtain ⟨g2, h⟩ := h
  refine p_getp (cc3 c120_11) g1 rfl g2 ?_
  refine p_push (cc3 c120_14) ?_
  obtain ⟨κ', ρ', he, h⟩ := h
  exact p_callS (cc3 c120_15) (Nat.le_of_ble_eq_true rfl) rfl rfl (Nat.le_of_ble_eq_true rfl) he h
theorem B120_18 {ev : xV} {Q : Option Value → xM → Prop} {sz sl : Nat} {K L : Nat → Nat} {κ : Nat → Nat → Int32} {ρ : Nat → Nat → Nat} {x1 x2 : Int32} {a0 : Nat} (h : Q none (Mm sz sl K L κ ρ)) : wpE (xT 120) ev Q (18, [(0, .ref a0), (1, .int x1), (2, .int x2)], [], Mm sz sl K L κ ρ) := by
  exact p_rv (cc3 c120_18) h
theorem B121_0 {ev : xV} {Q : Option Value → xM → Prop} {sz sl : Nat} {K L : Nat → Nat} {κ : Nat → Nat → Int32} {ρ : Nat → Nat → Nat} {x1 x2 x3 : Int32} {a0 : Nat} (h : ((K a0 = 12) ∧ ∃ v : Value, ∃ κ' ρ', ev 119 [.ref a0, .int x1] (Mm sz sl K L κ ρ) (some (v)) (Mm sz sl K L κ' ρ') ∧ wpE (xT 121) ev Q (5, [(0, .ref a0), (1, .int x1), (2, .int x2), (3, .int x3)], [v], Mm sz sl K L κ' ρ'))) : wpE (xT 121) ev Q (0, [(0, .ref a0), (1, .int x1), (2, .int x2), (3, .int x3)], [], Mm sz sl K L κ ρ) := by
  refine p_ald (cc3 c121_0) rfl ?_
  refine p_ild (cc3 c121_1) rfl ?_
  obtain ⟨g1, h⟩ := h
  obtain ⟨v, κ', ρ', he, h⟩ := h
  exact p_callV (cc3 c121_2) (Nat.le_of_ble_eq_true rfl) rfl rfl (Nat.le_of_ble_eq_true rfl) g1 he h
theorem B121_5 {ev : xV} {Q : Option Value → xM → Prop} {sz sl : Nat} {K L : Nat → Nat} {κ : Nat → Nat → Int32} {ρ : Nat → Nat → Nat} {x1 x2 x3 : Int32} {a0 b0 : Nat} (h : (K b0 = 8) ∧ (((κ b0 1) = (-1)) → Q (some (.int ((-11)))) (Mm sz sl K L κ ρ)) ∧ (¬ ((κ b0 1) = (-1)) → (∃ r κ' ρ', ev 122 [.ref b0, .int x2] (Mm sz sl K L κ ρ) (some (.int r)) (Mm sz sl K L κ' ρ') ∧ wpE (xT 121) ev Q (33, [(4, .ref b0), (0, .ref a0), (1, .int x1), (2, .int x2), (3, .int x3)], [.int r], Mm sz sl K L κ' ρ')))) : wpE (xT 121) ev Q (5, [(0, .ref a0), (1, .int x1), (2, .int x2), (3, .int x3)], [.ref b0], Mm sz sl K L κ ρ) := by
  refine p_ast (ls' := [(4, .ref b0), (0, .ref a0), (1, .int x1), (2, .int x2), (3, .int x3)]) (cc3 c121_5) (by decide) rfl ?_
  refine p_ald (cc3 c121_7) rfl ?_
  refine p_ifnR (cc3 c121_9) ?_
  refine p_ald (cc3 c121_15) rfl ?_
  obtain ⟨g1, h⟩ := h
  refine p_geti (cc3 c121_17) g1 rfl ?_
  refine p_push (cc3 c121_20) ?_
  refine p_icmp (cc3 c121_21) (fun c => ?_) (fun c => ?_)
  · have h := h.1 c
    refine p_push (cc3 c121_24) ?_
    exact p_ri (cc3 c121_26) trivial h
  · have h := h.2 c
    refine p_ald (cc3 c121_27) rfl ?_
    refine p_ild (cc3 c121_29) rfl ?_
    obtain ⟨r, κ', ρ', he, h⟩ := h
    exact p_callV (cc3 c121_30) (Nat.le_of_ble_eq_true rfl) rfl rfl (Nat.le_of_ble_eq_true rfl) g1 he h
theorem B121_5n {ev : xV} {Q : Option Value → xM → Prop} {sz sl : Nat} {K L : Nat → Nat} {κ : Nat → Nat → Int32} {ρ : Nat → Nat → Nat} {x1 x2 x3 : Int32} {a0 : Nat} (h : Q (some (.int ((-2)))) (Mm sz sl K L κ ρ)) : wpE (xT 121) ev Q (5, [(0, .ref a0), (1, .int x1), (2, .int x2), (3, .int x3)], [.null], Mm sz sl K L κ ρ) := by
  refine p_astN (ls' := [(4, .null), (0, .ref a0), (1, .int x1), (2, .int x2), (3, .int x3)]) (cc3 c121_5) (by decide) rfl ?_
  refine p_aldN (cc3 c121_7) rfl ?_
  refine p_ifnN (cc3 c121_9) ?_
  refine p_push (cc3 c121_12) ?_
  exact p_ri (cc3 c121_14) trivial h
theorem B121_33 {ev : xV} {Q : Option Value → xM → Prop} {sz sl : Nat} {K L : Nat → Nat} {κ : Nat → Nat → Int32} {ρ : Nat → Nat → Nat} {x1 x2 x3 s0 : Int32} {a4 a0 : Nat} (h : ((s0 = 0) → Q (some (.int ((-12)))) (Mm sz sl K L κ ρ)) ∧ (¬ (s0 = 0) → (K a4 = 8) ∧ (¬ ρ a4 0 = 0) ∧ (∃ r κ' ρ', ev 123 [.ref a4, .int x3] (Mm sz sl K L κ ρ) (some (.int r)) (Mm sz sl K L κ' ρ') ∧ wpE (xT 121) ev Q (51, [(4, .ref a4), (0, .ref a0), (1, .int x1), (2, .int x2), (3, .int x3)], [.int r, .int x2, .ref (ρ a4 0)], Mm sz sl K L κ' ρ')))) : wpE (xT 121) ev Q (33, [(4, .ref a4), (0, .ref a0), (1, .int x1), (2, .int x2), (3, .int x3)], [.int s0], Mm sz sl K L κ ρ) := by
  refine p_if (cc3 c121_33) (fun c => ?_) (fun c => ?_)
  · have h := h.1 c
    refine p_push (cc3 c121_36) ?_
    exact p_ri (cc3 c121_38) trivial h
  · have h := h.2 c
    refine p_ald (cc3 c121_39) rfl ?_
    obtain ⟨g1, h⟩ := h
    obtain ⟨g2, h⟩ := h
    refine p_getp (cc3 c121_41) g1 rfl g2 ?_
    refine p_ild (cc3 c121_44) rfl ?_
    refine p_ald (cc3 c121_45) rfl ?_
    refine p_ild (cc3 c121_47) rfl ?_
    obtain ⟨r, κ', ρ', he, h⟩ := h
    exact p_callV (cc3 c121_48) (Nat.le_of_ble_eq_true rfl) rfl rfl (Nat.le_of_ble_eq_true rfl) g1 he h
theorem B121_51 {ev : xV} {Q : Option Value → xM → Prop} {sz sl : Nat} {K L : Nat → Nat} {κ : Nat → Nat → Int32} {ρ : Nat → Nat → Nat} {x1 x2 x3 s0 s1 : Int32} {a4 a0 b2 : Nat} (h : (K b2 = 20) ∧ (vp_in s1 (L b2)) ∧ Q (some (.int 1)) (Mm sz sl K L (U κ b2 s1.toNatClampNeg s0) ρ)) : wpE (xT 121) ev Q (51, [(4, .ref a4), (0, .ref a0), (1, .int x1), (2, .int x2), (3, .int x3)], [.int s0, .int s1, .ref b2], Mm sz sl K L κ ρ) := by
  obtain ⟨g1, h⟩ := h
  obtain ⟨g2, h⟩ := h
  refine p_asti (cc3 c121_51) g1 g2 mm_xpi ?_
  refine p_push (cc3 c121_52) ?_
  exact p_ri (cc3 c121_53) trivial h
theorem B122_0 {ev : xV} {Q : Option Value → xM → Prop} {sz sl : Nat} {K L : Nat → Nat} {κ : Nat → Nat → Int32} {ρ : Nat → Nat → Nat} {x1 : Int32} {a0 : Nat} (h : ((x1 < 0) → Q (some (.int 0)) (Mm sz sl K L κ ρ)) ∧ (¬ (x1 < 0) → (K a0 = 8) ∧ (((κ a0 2) ≤ x1) → Q (some (.int 0)) (Mm sz sl K L κ ρ)) ∧ (¬ ((κ a0 2) ≤ x1) → ((40 ≤ x1) → Q (some (.int 0)) (Mm sz sl K L κ ρ)) ∧ (¬ (40 ≤ x1) → Q (some (.int 1)) (Mm sz sl K L κ ρ))))) : wpE (xT 122) ev Q (0, [(0, .ref a0), (1, .int x1)], [], Mm sz sl K L κ ρ) := by
  refine p_ild (cc3 c122_0) rfl ?_
  refine p_if (cc3 c122_1) (fun c => ?_) (fun c => ?_)
  · have h := h.1 c
    refine p_lc (ls' := []) c122_22 rfl rfl ?_
    refine p_push (cct c122_22 rfl) ?_
    exact p_ri (cct c122_23 rfl) (by decide) h
  · have h := h.2 c
    refine p_ild (cc3 c122_4) rfl ?_
    refine p_ald (cc3 c122_5) rfl ?_
    obtain ⟨g1, h⟩ := h
    refine p_geti (cc3 c122_6) g1 rfl ?_
    refine p_icmp (cc3 c122_9) (fun c => ?_) (fun c => ?_)
    · have h := h.1 c
      refine p_lc (ls' := []) c122_22 rfl rfl ?_
      refine p_push (cct c122_22 rfl) ?_
      exact p_ri (cct c122_23 rfl) (by decide) h
    · have h := h.2 c
      refine p_ild (cc3 c122_12) rfl ?_
      refine p_push (cc3 c122_13) ?_
      refine p_icmp (cc3 c122_15) (fun c => ?_) (fun c => ?_)
      · have h := h.1 c
        refine p_lc (ls' := []) c122_22 rfl rfl ?_
        refine p_push (cct c122_22 rfl) ?_
        exact p_ri (cct c122_23 rfl) (by decide) h
      · have h := h.2 c
        refine p_push (cc3 c122_18) ?_
        refine p_goto (cc3 c122_19) ?_
        refine p_lc (ls' := []) c122_23 rfl rfl ?_
        exact p_ri (cct c122_23 rfl) (by decide) h
theorem B123_0 {ev : xV} {Q : Option Value → xM → Prop} {sz sl : Nat} {K L : Nat → Nat} {κ : Nat → Nat → Int32} {ρ : Nat → Nat → Nat} {x1 : Int32} {a0 : Nat} (h : (K a0 = 8) ∧ (((κ a0 1) = 0) → Q (some (.int x1.toInt8.toInt32)) (Mm sz sl K L κ ρ)) ∧ (¬ ((κ a0 1) = 0) → (((κ a0 1) = 1) → Q (some (.int x1.toInt16.toInt32)) (Mm sz sl K L κ ρ)) ∧ (¬ ((κ a0 1) = 1) → Q (some (.int x1)) (Mm sz sl K L κ ρ)))) : wpE (xT 123) ev Q (0, [(0, .ref a0), (1, .int x1)], [], Mm sz sl K L κ ρ) := by
  refine p_ald (cc3 c123_0) rfl ?_
  obtain ⟨g1, h⟩ := h
  refine p_geti (cc3 c123_1) g1 rfl ?_
  refine p_if (cc3 c123_4) (fun c => ?_) (fun c => ?_)
  · have h := h.1 c
    refine p_ild (cc3 c123_7) rfl ?_
    refine p_un (cc3 c123_8) ?_
    exact p_ri (cc3 c123_9) trivial h
  · have h := h.2 c
    refine p_ald (cc3 c123_10) rfl ?_
    refine p_geti (cc3 c123_11) g1 rfl ?_
    refine p_push (cc3 c123_14) ?_
    refine p_icmp (cc3 c123_15) (fun c => ?_) (fun c => ?_)
    · have h := h.1 c
      refine p_ild (cc3 c123_18) rfl ?_
      refine p_un (cc3 c123_19) ?_
      refine p_goto (cc3 c123_20) ?_
      refine p_lc (ls' := []) c123_24 rfl rfl ?_
      exact p_ri (cct c123_24 rfl) trivial h
    · have h := h.2 c
      refine p_ild (cc3 c123_23) rfl ?_
      refine p_lc (ls' := []) c123_24 rfl rfl ?_
      exact p_ri (cct c123_24 rfl) trivial h
theorem B124_0 {ev : xV} {Q : Option Value → xM → Prop} {sz sl : Nat} {K L : Nat → Nat} {κ : Nat → Nat → Int32} {ρ : Nat → Nat → Nat} {x1 x2 x3 x4 x5 : Int32} {a0 : Nat} (h : ((K a0 = 12) ∧ ∃ v : Value, ∃ κ' ρ', ev 54 [.ref a0, .int x1] (Mm sz sl K L κ ρ) (some (v)) (Mm sz sl K L κ' ρ') ∧ wpE (xT 124) ev Q (5, [(0, .ref a0), (1, .int x1), (2, .int x2), (3, .int x3), (4, .int x4), (5, .int x5)], [v], Mm sz sl K L κ' ρ'))) : wpE (xT 124) ev Q (0, [(0, .ref a0), (1, .int x1), (2, .int x2), (3, .int x3), (4, .int x4), (5, .int x5)], [], Mm sz sl K L κ ρ) := by
  refine p_ald (cc3 c124_0) rfl ?_
  refine p_ild (cc3 c124_1) rfl ?_
  obtain ⟨g1, h⟩ := h
  obtain ⟨v, κ', ρ', he, h⟩ := h
  exact p_callV (cc3 c124_2) (Nat.le_of_ble_eq_true rfl) rfl rfl (Nat.le_of_ble_eq_true rfl) g1 he h
theorem B124_5 {ev : xV} {Q : Option Value → xM → Prop} {sz sl : Nat} {K L : Nat → Nat} {κ : Nat → Nat → Int32} {ρ : Nat → Nat → Nat} {x1 x2 x3 x4 x5 : Int32} {a0 b0 : Nat} (h : ((K a0 = 12) ∧ ∃ v : Value, ∃ κ' ρ', ev 119 [.ref a0, .int x2] (Mm sz sl K L κ ρ) (some (v)) (Mm sz sl K L κ' ρ') ∧ wpE (xT 124) ev Q (12, [(6, .ref b0), (0, .ref a0), (1, .int x1), (2, .int x2), (3, .int x3), (4, .int x4), (5, .int x5)], [v], Mm sz sl K L κ' ρ'))) : wpE (xT 124) ev Q (5, [(0, .ref a0), (1, .int x1), (2, .int x2), (3, .int x3), (4, .int x4), (5, .int x5)], [.ref b0], Mm sz sl K L κ ρ) := by
  refine p_ast (ls' := [(6, .ref b0), (0, .ref a0), (1, .int x1), (2, .int x2), (3, .int x3), (4, .int x4), (5, .int x5)]) (cc3 c124_5) (by decide) rfl ?_
  refine p_ald (cc3 c124_7) rfl ?_
  refine p_ild (cc3 c124_8) rfl ?_
  obtain ⟨g1, h⟩ := h
  obtain ⟨v, κ', ρ', he, h⟩ := h
  exact p_callV (cc3 c124_9) (Nat.le_of_ble_eq_true rfl) rfl rfl (Nat.le_of_ble_eq_true rfl) g1 he h
theorem B124_5n {ev : xV} {Q : Option Value → xM → Prop} {sz sl : Nat} {K L : Nat → Nat} {κ : Nat → Nat → Int32} {ρ : Nat → Nat → Nat} {x1 x2 x3 x4 x5 : Int32} {a0 : Nat} (h : ((K a0 = 12) ∧ ∃ v : Value, ∃ κ' ρ', ev 119 [.ref a0, .int x2] (Mm sz sl K L κ ρ) (some (v)) (Mm sz sl K L κ' ρ') ∧ wpE (xT 124) ev Q (12, [(6, .null), (0, .ref a0), (1, .int x1), (2, .int x2), (3, .int x3), (4, .int x4), (5, .int x5)], [v], Mm sz sl K L κ' ρ'))) : wpE (xT 124) ev Q (5, [(0, .ref a0), (1, .int x1), (2, .int x2), (3, .int x3), (4, .int x4), (5, .int x5)], [.null], Mm sz sl K L κ ρ) := by
  refine p_astN (ls' := [(6, .null), (0, .ref a0), (1, .int x1), (2, .int x2), (3, .int x3), (4, .int x4), (5, .int x5)]) (cc3 c124_5) (by decide) rfl ?_
  refine p_ald (cc3 c124_7) rfl ?_
  refine p_ild (cc3 c124_8) rfl ?_
  obtain ⟨g1, h⟩ := h
  obtain ⟨v, κ', ρ', he, h⟩ := h
  exact p_callV (cc3 c124_9) (Nat.le_of_ble_eq_true rfl) rfl rfl (Nat.le_of_ble_eq_true rfl) g1 he h
theorem B124_12 {ev : xV} {Q : Option Value → xM → Prop} {sz sl : Nat} {K L : Nat → Nat} {κ : Nat → Nat → Int32} {ρ : Nat → Nat → Nat} {x1 x2 x3 x4 x5 : Int32} {a6 a0 b0 : Nat} (h : ((x3 < 0) → Q (some (.int ((-2)))) (Mm sz sl K L κ ρ)) ∧ (¬ (x3 < 0) → ((2 < x3) → Q (some (.int ((-2)))) (Mm sz sl K L κ ρ)) ∧ (¬ (2 < x3) → ((x5 < 0) → Q (some (.int ((-2)))) (Mm sz sl K L κ ρ)) ∧ (¬ (x5 < 0) → ((x5 ≤ 20) → (K b0 = 8) ∧ (((κ b0 1) = (-1)) → Q (some (.int ((-11)))) (Mm sz sl K L κ ρ)) ∧ (¬ ((κ b0 1) = (-1)) → (((κ b0 1) = x3) → wpE (xT 124) ev Q (78, [(4, .int x4), (5, .int x5), (6, .ref a6), (7, .ref b0), (8, .int 0), (9, .int 0)], [], Mm sz sl K L κ ρ)) ∧ (¬ ((κ b0 1) = x3) → Q (some (.int ((-13)))) (Mm sz sl K L κ ρ)))) ∧ (¬ (x5 ≤ 20) → Q (some (.int ((-2)))) (Mm sz sl K L κ ρ)))))) : wpE (xT 124) ev Q (12, [(6, .ref a6), (0, .ref a0), (1, .int x1), (2, .int x2), (3, .int x3), (4, .int x4), (5, .int x5)], [.ref b0], Mm sz sl K L κ ρ) := by
  refine p_ast (ls' := [(7, .ref b0), (6, .ref a6), (0, .ref a0), (1, .int x1), (2, .int x2), (3, .int x3), (4, .int x4), (5, .int x5)]) (cc3 c124_12) (by decide) rfl ?_
  refine p_ald (cc3 c124_14) rfl ?_
  refine p_ifnR (cc3 c124_16) ?_
  refine p_ald (cc3 c124_19) rfl ?_
  refine p_ifnR (cc3 c124_21) ?_
  refine p_ild (cc3 c124_24) rfl ?_
  refine p_if (cc3 c124_25) (fun c => ?_) (fun c => ?_)
  · have h := h.1 c
    refine p_lc (ls' := []) c124_45 rfl rfl ?_
    refine p_push (cct c124_45 rfl) ?_
    exact p_ri (cc3 c124_47) trivial h
  · have h := h.2 c
    refine p_ild (cc3 c124_28) rfl ?_
    refine p_push (cc3 c124_29) ?_
    refine p_icmp (cc3 c124_30) (fun c => ?_) (fun c => ?_)
    · have h := h.1 c
      refine p_lc (ls' := []) c124_45 rfl rfl ?_
      refine p_push (cct c124_45 rfl) ?_
      exact p_ri (cc3 c124_47) trivial h
    · have h := h.2 c
      refine p_ild (cc3 c124_33) rfl ?_
      refine p_if (cc3 c124_35) (fun c => ?_) (fun c => ?_)
      · have h := h.1 c
        refine p_lc (ls' := []) c124_45 rfl rfl ?_
        refine p_push (cct c124_45 rfl) ?_
        exact p_ri (cc3 c124_47) trivial h
      · have h := h.2 c
        refine p_ild (cc3 c124_38) rfl ?_
        refine p_push (cc3 c124_40) ?_
        refine p_icmp (cc3 c124_42) (fun c => ?_) (fun c => ?_)
        · have h := h.1 c
          refine p_ald (cc3 c124_48) rfl ?_
          obtain ⟨g1, h⟩ := h
          refine p_geti (cc3 c124_50) g1 rfl ?_
          refine p_push (cc3 c124_53) ?_
          refine p_icmp (cc3 c124_54) (fun c => ?_) (fun c => ?_)
          · have h := h.1 c
            refine p_push (cc3 c124_57) ?_
            exact p_ri (cc3 c124_59) trivial h
          · have h := h.2 c
            refine p_ald (cc3 c124_60) rfl ?_
            refine p_geti (cc3 c124_62) g1 rfl ?_
            refine p_ild (cc3 c124_65) rfl ?_
            refine p_icmp (cc3 c124_66) (fun c => ?_) (fun c => ?_)
            · have h := h.1 c
              refine p_push (cc3 c124_72) ?_
              refine p_ist (ls' := [(8, .int 0), (7, .ref b0), (6, .ref a6), (0, .ref a0), (1, .int x1), (2, .int x2), (3, .int x3), (4, .int x4), (5, .int x5)]) (cc3 c124_73) (by decide) rfl ?_
              refine p_push (cc3 c124_75) ?_
              refine p_ist (ls' := [(9, .int 0), (8, .int 0), (7, .ref b0), (6, .ref a6), (0, .ref a0), (1, .int x1), (2, .int x2), (3, .int x3), (4, .int x4), (5, .int x5)]) (cc3 c124_76) (by decide) rfl ?_
              exact p_lc (ls' := [(4, .int x4), (5, .int x5), (6, .ref a6), (7, .ref b0), (8, .int 0), (9, .int 0)]) c124_78 rfl rfl h
            · have h := h.2 c
              refine p_push (cc3 c124_69) ?_
              exact p_ri (cc3 c124_71) trivial h
        · have h := h.2 c
          refine p_lc (ls' := []) c124_45 rfl rfl ?_
          refine p_push (cct c124_45 rfl) ?_
          exact p_ri (cc3 c124_47) trivial h
theorem B124_12n {ev : xV} {Q : Option Value → xM → Prop} {sz sl : Nat} {K L : Nat → Nat} {κ : Nat → Nat → Int32} {ρ : Nat → Nat → Nat} {x1 x2 x3 x4 x5 : Int32} {a6 a0 : Nat} (h : Q (some (.int ((-2)))) (Mm sz sl K L κ ρ)) : wpE (xT 124) ev Q (12, [(6, .ref a6), (0, .ref a0), (1, .int x1), (2, .int x2), (3, .int x3), (4, .int x4), (5, .int x5)], [.null], Mm sz sl K L κ ρ) := by
  refine p_astN (ls' := [(7, .null), (6, .ref a6), (0, .ref a0), (1, .int x1), (2, .int x2), (3, .int x3), (4, .int x4), (5, .int x5)]) (cc3 c124_12) (by decide) rfl ?_
  refine p_ald (cc3 c124_14) rfl ?_
  refine p_ifnR (cc3 c124_16) ?_
  refine p_aldN (cc3 c124_19) rfl ?_
  refine p_ifnN (cc3 c124_21) ?_
  refine p_lc (ls' := []) c124_45 rfl rfl ?_
  refine p_push (cct c124_45 rfl) ?_
  exact p_ri (cc3 c124_47) trivial h
theorem B124_12nn {ev : xV} {Q : Option Value → xM → Prop} {sz sl : Nat} {K L : Nat → Nat} {κ : Nat → Nat → Int32} {ρ : Nat → Nat → Nat} {x1 x2 x3 x4 x5 : Int32} {a0 : Nat} (h : Q (some (.int ((-2)))) (Mm sz sl K L κ ρ)) : wpE (xT 124) ev Q (12, [(6, .null), (0, .ref a0), (1, .int x1), (2, .int x2), (3, .int x3), (4, .int x4), (5, .int x5)], [.null], Mm sz sl K L κ ρ) := by
  refine p_astN (ls' := [(7, .null), (6, .null), (0, .ref a0), (1, .int x1), (2, .int x2), (3, .int x3), (4, .int x4), (5, .int x5)]) (cc3 c124_12) (by decide) rfl ?_
  refine p_aldN (cc3 c124_14) rfl ?_
  refine p_ifnN (cc3 c124_16) ?_
  refine p_lc (ls' := []) c124_45 rfl rfl ?_
  refine p_push (cct c124_45 rfl) ?_
  exact p_ri (cc3 c124_47) trivial h
theorem B124_78 {ev : xV} {Q : Option Value → xM → Prop} {sz sl : Nat} {K L : Nat → Nat} {κ : Nat → Nat → Int32} {ρ : Nat → Nat → Nat} {x4 x5 x8 x9 : Int32} {a6 a7 : Nat} (h : ((x5 ≤ x9) → Q (some (.int x8)) (Mm sz sl K L κ ρ)) ∧ (¬ (x5 ≤ x9) → ((K a7 = 8) ∧ ∃ r κ' ρ', ev 122 [.ref a7, .int (x4 + x9)] (Mm sz sl K L κ ρ) (some (.int r)) (Mm sz sl K L κ' ρ') ∧ wpE (xT 124) ev Q (95, [(4, .int x4), (5, .int x5), (6, .ref a6), (7, .ref a7), (8, .int x8), (9, .int x9)], [.int r], Mm sz sl K L κ' ρ')))) : wpE (xT 124) ev Q (78, [(4, .int x4), (5, .int x5), (6, .ref a6), (7, .ref a7), (8, .int x8), (9, .int x9)], [], Mm sz sl K L κ ρ) := by
  refine p_ild (cct c124_78 rfl) rfl ?_
  refine p_ild (cc3 c124_80) rfl ?_
  refine p_icmp (cc3 c124_82) (fun c => ?_) (fun c => ?_)
  · have h := h.1 c
    refine p_ild (cc3 c124_129) rfl ?_
    exact p_ri (cc3 c124_131) trivial h
  · have h := h.2 c
    refine p_ald (cc3 c124_85) rfl ?_
    refine p_ild (cc3 c124_87) rfl ?_
    refine p_ild (cc3 c124_89) rfl ?_
    refine p_bin (cc3 c124_91) ?_
    obtain ⟨g1, h⟩ := h
    obtain ⟨r, κ', ρ', he, h⟩ := h
    exact p_callV (cc3 c124_92) (Nat.le_of_ble_eq_true rfl) rfl rfl (Nat.le_of_ble_eq_true rfl) g1 he h
theorem B124_95 {ev : xV} {Q : Option Value → xM → Prop} {sz sl : Nat} {K L : Nat → Nat} {κ : Nat → Nat → Int32} {ρ : Nat → Nat → Nat} {x4 x5 x8 x9 s0 : Int32} {a6 a7 : Nat} (h : ((s0 = 0) → Q (some (.int ((-12)))) (Mm sz sl K L κ ρ)) ∧ (¬ (s0 = 0) → (K a7 = 8) ∧ (¬ ρ a7 0 = 0) ∧ (K (ρ a7 0) = 20) ∧ (vp_in (x4 + x9) (L (ρ a7 0))) ∧ ((K a6 = 1) ∧ ∃ r κ' ρ', ev 55 [.ref a6, .int (κ (ρ a7 0) (x4 + x9).toNatClampNeg)] (Mm sz sl K L κ ρ) (some (.int r)) (Mm sz sl K L κ' ρ') ∧ wpE (xT 124) ev Q (117, [(4, .int x4), (5, .int x5), (6, .ref a6), (7, .ref a7), (8, .int x8), (9, .int x9)], [.int r], Mm sz sl K L κ' ρ')))) : wpE (xT 124) ev Q (95, [(4, .int x4), (5, .int x5), (6, .ref a6), (7, .ref a7), (8, .int x8), (9, .int x9)], [.int s0], Mm sz sl K L κ ρ) := by
  refine p_if (cc3 c124_95) (fun c => ?_) (fun c => ?_)
  · have h := h.1 c
    refine p_push (cc3 c124_98) ?_
    exact p_ri (cc3 c124_100) trivial h
  · have h := h.2 c
    refine p_ald (cc3 c124_101) rfl ?_
    refine p_ald (cc3 c124_103) rfl ?_
    obtain ⟨g1, h⟩ := h
    obtain ⟨g2, h⟩ := h
    refine p_getp (cc3 c124_105) g1 rfl g2 ?_
    refine p_ild (cc3 c124_108) rfl ?_
    refine p_ild (cc3 c124_110) rfl ?_
    refine p_bin (cc3 c124_112) ?_
    obtain ⟨g3, h⟩ := h
    obtain ⟨g4, h⟩ := h
    refine p_aldi (cc3 c124_113) g3 g4 rfl ?_
    obtain ⟨g5, h⟩ := h
    obtain ⟨r, κ', ρ', he, h⟩ := h
    exact p_callV (cc3 c124_114) (Nat.le_of_ble_eq_true rfl) rfl rfl (Nat.le_of_ble_eq_true rfl) g5 he h
theorem B124_117 {ev : xV} {Q : Option Value → xM → Prop} {sz sl : Nat} {K L : Nat → Nat} {κ : Nat → Nat → Int32} {ρ : Nat → Nat → Nat} {x4 x5 x8 x9 s0 : Int32} {a6 a7 : Nat} (h : ((s0 ≤ 0) → wpE (xT 124) ev Q (78, [(4, .int x4), (5, .int x5), (6, .ref a6), (7, .ref a7), (8, .int x8), (9, .int (x9 + 1))], [], Mm sz sl K L κ ρ)) ∧ (¬ (s0 ≤ 0) → wpE (xT 124) ev Q (78, [(4, .int x4), (5, .int x5), (6, .ref a6), (7, .ref a7), (8, .int (x8 + 1)), (9, .int (x9 + 1))], [], Mm sz sl K L κ ρ))) : wpE (xT 124) ev Q (117, [(4, .int x4), (5, .int x5), (6, .ref a6), (7, .ref a7), (8, .int x8), (9, .int x9)], [.int s0], Mm sz sl K L κ ρ) := by
  refine p_if (cc3 c124_117) (fun c => ?_) (fun c => ?_)
  · have h := h.1 c
    refine p_iinc (y := x9 + 1) (ls' := [(9, .int (x9 + 1)), (4, .int x4), (5, .int x5), (6, .ref a6), (7, .ref a7), (8, .int x8)]) (cct c124_123 rfl) (by decide) rfl rfl rfl ?_
    refine p_goto (cc3 c124_126) ?_
    exact p_lc (ls' := [(4, .int x4), (5, .int x5), (6, .ref a6), (7, .ref a7), (8, .int x8), (9, .int (x9 + 1))]) c124_78 rfl rfl h
  · have h := h.2 c
    refine p_iinc (y := x8 + 1) (ls' := [(8, .int (x8 + 1)), (4, .int x4), (5, .int x5), (6, .ref a6), (7, .ref a7), (9, .int x9)]) (cc3 c124_120) (by decide) rfl rfl rfl ?_
    refine p_lc (ls' := [(4, .int x4), (5, .int x5), (6, .ref a6), (7, .ref a7), (8, .int (x8 + 1)), (9, .int x9)]) c124_123 rfl rfl ?_
    refine p_iinc (y := x9 + 1) (ls' := [(9, .int (x9 + 1)), (4, .int x4), (5, .int x5), (6, .ref a6), (7, .ref a7), (8, .int (x8 + 1))]) (cct c124_123 rfl) (by decide) rfl rfl rfl ?_
    refine p_goto (cc3 c124_126) ?_
    exact p_lc (ls' := [(4, .int x4), (5, .int x5), (6, .ref a6), (7, .ref a7), (8, .int (x8 + 1)), (9, .int (x9 + 1))]) c124_78 rfl rfl h
