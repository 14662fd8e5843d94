theorem B34_0 {ev : xV} {Q : Option Value → xM → Prop} {sz sl : Nat} {K L : Nat → Nat} {κ : Nat → Nat → Int32} {ρ : Nat → Nat → Nat} {a0 a1 : Nat} (h : (K a1 = 11) ∧ (¬ ρ a1 0 = 0) ∧ (∃ ra sz' sl' K' L' κ' ρ', ev 35 [.ref (ρ a1 0), .int (κ a1 1)] (Mm sz sl K L κ ρ) (some (.ref ra)) (Mm sz' sl' K' L' κ' ρ') ∧ wpE (xT 34) ev Q (16, [(0, .ref a0), (1, .ref a1)], [.ref ra, .ref a0], Mm sz' sl' K' L' κ' ρ'))) : wpE (xT 34) ev Q (0, [(0, .ref a0), (1, .ref a1)], [], Mm sz sl K L κ ρ) := by
  refine p_ald (cc3 c34_0) rfl ?_
  refine p_obj (cc3 c34_1) (Nat.le_of_ble_eq_true rfl) ?_
  refine p_ald (cc3 c34_4) rfl ?_
  refine p_ald (cc3 c34_5) rfl ?_
  obtain ⟨g1, h⟩ := h
  obtain ⟨g2, h⟩ := h
  refine p_getp (cc3 c34_6) g1 rfl g2 ?_
  refine p_ald (cc3 c34_9) rfl ?_
  refine p_geti (cc3 c34_10) g1 rfl ?_
  obtain ⟨ra, sz', sl', K', L', κ', ρ', he, h⟩ := h
  exact p_callS (cc3 c34_13) (Nat.le_of_ble_eq_true rfl) rfl rfl (Nat.le_of_ble_eq_true rfl) he h
theorem B34_16 {ev : xV} {Q : Option Value → xM → Prop} {sz sl : Nat} {K L : Nat → Nat} {κ : Nat → Nat → Int32} {ρ : Nat → Nat → Nat} {a0 a1 b0 b1 : Nat} (h : (K b1 = 10) ∧ (¬ b0 = 0) ∧ (K a1 = 11) ∧ (¬ (κ a1 1) < 0) ∧ ((κ a1 1).toNatClampNeg ≤ 100000) ∧ ((va_up K sz 20) a0 = 10) ∧ (¬ sz = 0) ∧ ((va_up K sz 20) a1 = 11) ∧ Q none (Mm (sz + 1) (sl + (κ a1 1).toNatClampNeg) (va_up K sz 20) (va_up L sz ((κ a1 1).toNatClampNeg)) (U (Z0 κ sz) a0 2 ((Z0 κ sz) a1 2)) (UR (ZR (UR ρ b1 0 b0) sz) a0 1 sz))) : wpE (xT 34) ev Q (16, [(0, .ref a0), (1, .ref a1)], [.ref b0, .ref b1], Mm sz sl K L κ ρ) := by
  obtain ⟨g1, h⟩ := h
  obtain ⟨g2, h⟩ := h
  refine p_putp (cc3 c34_16) g1 g2 mm_xpp ?_
  refine p_ald (cc3 c34_19) rfl ?_
  refine p_ald (cc3 c34_20) rfl ?_
  obtain ⟨g3, h⟩ := h
  refine p_geti (cc3 c34_21) g3 rfl ?_
  obtain ⟨g4, h⟩ := h
  obtain ⟨g5, h⟩ := h
  refine p_newa (cc3 c34_24) g4 rfl g5 mm_new ?_
  obtain ⟨g6, h⟩ := h
  obtain ⟨g7, h⟩ := h
  refine p_putp (cc3 c34_26) g6 g7 mm_xpp ?_
  refine p_ald (cc3 c34_29) rfl ?_
  refine p_ald (cc3 c34_30) rfl ?_
  obtain ⟨g8, h⟩ := h
  refine p_geti (cc3 c34_31) g8 rfl ?_
  refine p_puti (cc3 c34_34) g6 mm_xpi ?_
  exact p_rv (cc3 c34_37) h
theorem B35_0 {ev : xV} {Q : Option Value → xM → Prop} {sz sl : Nat} {K L : Nat → Nat} {κ : Nat → Nat → Int32} {ρ : Nat → Nat → Nat} {x1 : Int32} {a0 : Nat} (h : (K a0 = 20) ∧ ((x1 = (Int32.ofNat (L a0))) → ((va_up K sz 20) sz = 20) ∧ Q (some (.ref sz)) (Mm (sz + 1) (sl + L a0) (va_up K sz 20) (va_up L sz (L a0)) (va_up κ sz (κ a0)) (ZR ρ sz))) ∧ (¬ (x1 = (Int32.ofNat (L a0))) → (¬ x1 < 0) ∧ (x1.toNatClampNeg ≤ 100000) ∧ ((va_up K sz 20) a0 = 20) ∧ (∃ r κ' ρ', ev 36 [.int (Int32.ofNat ((va_up L sz x1.toNatClampNeg) a0)), .int x1] (Mm (sz + 1) (sl + x1.toNatClampNeg) (va_up K sz 20) (va_up L sz x1.toNatClampNeg) (Z0 κ sz) (ZR ρ sz)) (some (.int r)) (Mm (sz + 1) (sl + x1.toNatClampNeg) (va_up K sz 20) (va_up L sz x1.toNatClampNeg) κ' ρ') ∧ wpE (xT 35) ev Q (28, [(2, .ref sz), (0, .ref a0), (1, .int x1)], [.int r, .int 0, .ref sz, .int 0, .ref a0], Mm (sz + 1) (sl + x1.toNatClampNeg) (va_up K sz 20) (va_up L sz x1.toNatClampNeg) κ' ρ')))) : wpE (xT 35) ev Q (0, [(0, .ref a0), (1, .int x1)], [], Mm sz sl K L κ ρ) := by
  refine p_ild (cc3 c35_0) rfl ?_
  refine p_ald (cc3 c35_1) rfl ?_
  obtain ⟨g1, h⟩ := h
  refine p_len (cc3 c35_2) g1 rfl ?_
  refine p_icmp (cc3 c35_3) (fun c => ?_) (fun c => ?_)
  · have h := h.1 c
    refine p_ald (cc3 c35_6) rfl ?_
    refine p_clone (cc3 c35_7) g1 (Nat.le_of_ble_eq_true rfl) ?_
    obtain ⟨g2, h⟩ := h
    refine p_cast (cc3 c35_10) g2 ?_
    exact p_ra (cc3 c35_13) h
  · have h := h.2 c
    refine p_ild (cc3 c35_14) rfl ?_
    obtain ⟨g2, h⟩ := h
    obtain ⟨g3, h⟩ := h
    refine p_newa (cc3 c35_15) g2 rfl g3 mm_new ?_
    refine p_ast (ls' := [(2, .ref sz), (0, .ref a0), (1, .int x1)]) (cc3 c35_17) (by decide) rfl ?_
    refine p_ald (cc3 c35_18) rfl ?_
    refine p_push (cc3 c35_19) ?_
    refine p_ald (cc3 c35_20) rfl ?_
    refine p_push (cc3 c35_21) ?_
    refine p_ald (cc3 c35_22) rfl ?_
    obtain ⟨g4, h⟩ := h
    refine p_len (cc3 c35_23) g4 rfl ?_
    refine p_ild (cc3 c35_24) rfl ?_
    obtain ⟨r, κ', ρ', he, h⟩ := h
    exact p_callS (cc3 c35_25) (Nat.le_of_ble_eq_true rfl) rfl rfl (Nat.le_of_ble_eq_true rfl) he h
theorem B35_28 {ev : xV} {Q : Option Value → xM → Prop} {sz sl : Nat} {K L : Nat → Nat} {κ : Nat → Nat → Int32} {ρ : Nat → Nat → Nat} {x1 s0 s1 s3 : Int32} {a2 a0 b2 b4 : Nat} (h : (K b2 = 20) ∧ (K b4 = 20) ∧ (¬ s3 < 0) ∧ (¬ s1 < 0) ∧ (¬ s0 < 0) ∧ (s3.toNatClampNeg + s0.toNatClampNeg ≤ L b4) ∧ (s1.toNatClampNeg + s0.toNatClampNeg ≤ L b2) ∧ Q (some (.ref a2)) (Mm sz sl K L (CP κ b4 b2 s3.toNatClampNeg s1.toNatClampNeg s0.toNatClampNeg) ρ)) : wpE (xT 35) ev Q (28, [(2, .ref a2), (0, .ref a0), (1, .int x1)], [.int s0, .int s1, .ref b2, .int s3, .ref b4], Mm sz sl K L κ ρ) := by
  obtain ⟨g1, h⟩ := h
  obtain ⟨g2, h⟩ := h
  obtain ⟨g3, h⟩ := h
  obtain ⟨g4, h⟩ := h
  obtain ⟨g5, h⟩ := h
  obtain ⟨g6, h⟩ := h
  obtain ⟨g7, h⟩ := h
  refine p_copy (cc3 c35_28) g1 g2 g3 g4 g5 g6 g7 (Nat.le_of_ble_eq_true rfl) ?_
  refine p_ald (cc3 c35_31) rfl ?_
  exact p_ra (cc3 c35_32) h
theorem B36_0 {ev : xV} {Q : Option Value → xM → Prop} {sz sl : Nat} {K L : Nat → Nat} {κ : Nat → Nat → Int32} {ρ : Nat → Nat → Nat} {x0 x1 : Int32} (h : ((x1 < x0) → Q (some (.int x1)) (Mm sz sl K L κ ρ)) ∧ (¬ (x1 < x0) → Q (some (.int x0)) (Mm sz sl K L κ ρ))) : wpE (xT 36) ev Q (0, [(0, .int x0), (1, .int x1)], [], Mm sz sl K L κ ρ) := by
  refine p_ild (cc3 c36_0) rfl ?_
  refine p_ild (cc3 c36_1) rfl ?_
  refine p_icmp (cc3 c36_2) (fun c => ?_) (fun c => ?_)
  · have h := h.1 c
    refine p_ild (cc3 c36_9) rfl ?_
    refine p_lc (ls' := []) c36_10 rfl rfl ?_
    exact p_ri (cct c36_10 rfl) trivial h
  · have h := h.2 c
    refine p_ild (cc3 c36_5) rfl ?_
    refine p_goto (cc3 c36_6) ?_
    refine p_lc (ls' := []) c36_10 rfl rfl ?_
    exact p_ri (cct c36_10 rfl) trivial h
theorem B37_0 {ev : xV} {Q : Option Value → xM → Prop} {sz sl : Nat} {K L : Nat → Nat} {κ : Nat → Nat → Int32} {ρ : Nat → Nat → Nat} {x1 : Int32} {w2 : Int64} {a0 : Nat} (h : ((x1 < 1) → Q (some (.int ((-2)))) (Mm sz sl K L κ ρ)) ∧ (¬ (x1 < 1) → ((x1 ≤ 8) → (K a0 = 12) ∧ (¬ ρ a0 0 = 0) ∧ (K (ρ a0 0) = 9) ∧ ((((κ (ρ a0 0) 1) + x1) ≤ 160) → wpE (xT 37) ev Q (35, [(0, .ref a0), (1, .int x1), (2, .long w2), (4, .int 0)], [], Mm sz sl K L κ ρ)) ∧ (¬ (((κ (ρ a0 0) 1) + x1) ≤ 160) → Q (some (.int ((-4)))) (Mm sz sl K L κ ρ))) ∧ (¬ (x1 ≤ 8) → Q (some (.int ((-2)))) (Mm sz sl K L κ ρ)))) : wpE (xT 37) ev Q (0, [(0, .ref a0), (1, .int x1), (2, .long w2)], [], Mm sz sl K L κ ρ) := by
  refine p_ild (cc3 c37_0) rfl ?_
  refine p_push (cc3 c37_1) ?_
  refine p_icmp (cc3 c37_2) (fun c => ?_) (fun c => ?_)
  · have h := h.1 c
    refine p_lc (ls' := []) c37_11 rfl rfl ?_
    refine p_push (cct c37_11 rfl) ?_
    exact p_ri (cc3 c37_13) trivial h
  · have h := h.2 c
    refine p_ild (cc3 c37_5) rfl ?_
    refine p_push (cc3 c37_6) ?_
    refine p_icmp (cc3 c37_8) (fun c => ?_) (fun c => ?_)
    · have h := h.1 c
      refine p_ald (cc3 c37_14) rfl ?_
      obtain ⟨g1, h⟩ := h
      obtain ⟨g2, h⟩ := h
      refine p_getp (cc3 c37_15) g1 rfl g2 ?_
      obtain ⟨g3, h⟩ := h
      refine p_geti (cc3 c37_18) g3 rfl ?_
      refine p_ild (cc3 c37_21) rfl ?_
      refine p_bin (cc3 c37_22) ?_
      refine p_push (cc3 c37_23) ?_
      refine p_icmp (cc3 c37_26) (fun c => ?_) (fun c => ?_)
      · have h := h.1 c
        refine p_push (cc3 c37_32) ?_
        refine p_ist (ls' := [(4, .int 0), (0, .ref a0), (1, .int x1), (2, .long w2)]) (cc3 c37_33) (by decide) rfl ?_
        exact p_lc (ls' := [(0, .ref a0), (1, .int x1), (2, .long w2), (4, .int 0)]) c37_35 rfl rfl h
      · have h := h.2 c
        refine p_push (cc3 c37_29) ?_
        exact p_ri (cc3 c37_31) trivial h
    · have h := h.2 c
      refine p_lc (ls' := []) c37_11 rfl rfl ?_
      refine p_push (cct c37_11 rfl) ?_
      exact p_ri (cc3 c37_13) trivial h
theorem B37_35 {ev : xV} {Q : Option Value → xM → Prop} {sz sl : Nat} {K L : Nat → Nat} {κ : Nat → Nat → Int32} {ρ : Nat → Nat → Nat} {x1 x4 : Int32} {w2 : Int64} {a0 : Nat} (h : ((x1 ≤ x4) → (K a0 = 12) ∧ (¬ ρ a0 0 = 0) ∧ (K (ρ a0 0) = 9) ∧ Q (some (.int (κ (ρ a0 0) 1))) (Mm sz sl K L κ ρ)) ∧ (¬ (x1 ≤ x4) → (K a0 = 12) ∧ (¬ ρ a0 0 = 0) ∧ ((K (ρ a0 0) = 9) ∧ ∃ κ' ρ', ev 15 [.ref (ρ a0 0), .int ((((w2.toUInt64 >>> ((8 * x4).toInt64.toUInt64 &&& Int64.toUInt64 63)).toInt64).toInt32) &&& (255 : Int32))] (Mm sz sl K L κ ρ) none (Mm sz sl K L κ' ρ') ∧ wpE (xT 37) ev Q (60, [(0, .ref a0), (1, .int x1), (2, .long w2), (4, .int x4)], [], Mm sz sl K L κ' ρ')))) : wpE (xT 37) ev Q (35, [(0, .ref a0), (1, .int x1), (2, .long w2), (4, .int x4)], [], Mm sz sl K L κ ρ) := by
  refine p_ild (cct c37_35 rfl) rfl ?_
  refine p_ild (cc3 c37_37) rfl ?_
  refine p_icmp (cc3 c37_38) (fun c => ?_) (fun c => ?_)
  · have h := h.1 c
    refine p_ald (cc3 c37_66) rfl ?_
    obtain ⟨g1, h⟩ := h
    obtain ⟨g2, h⟩ := h
    refine p_getp (cc3 c37_67) g1 rfl g2 ?_
    obtain ⟨g3, h⟩ := h
    refine p_geti (cc3 c37_70) g3 rfl ?_
    exact p_ri (cc3 c37_73) trivial h
  · have h := h.2 c
    refine p_ald (cc3 c37_41) rfl ?_
    obtain ⟨g1, h⟩ := h
    obtain ⟨g2, h⟩ := h
    refine p_getp (cc3 c37_42) g1 rfl g2 ?_
    refine p_lld (cc3 c37_45) rfl ?_
    refine p_push (cc3 c37_46) ?_
    refine p_ild (cc3 c37_48) rfl ?_
    refine p_bin (cc3 c37_50) ?_
    refine p_shL (cc3 c37_51) ?_
    refine p_l2i (cc3 c37_52) ?_
    refine p_push (cc3 c37_53) ?_
    refine p_bin (cc3 c37_56) ?_
    obtain ⟨g3, h⟩ := h
    obtain ⟨κ', ρ', he, h⟩ := h
    exact p_callV (cc3 c37_57) (Nat.le_of_ble_eq_true rfl) rfl rfl (Nat.le_of_ble_eq_true rfl) g3 he h
theorem B37_60 {ev : xV} {Q : Option Value → xM → Prop} {sz sl : Nat} {K L : Nat → Nat} {κ : Nat → Nat → Int32} {ρ : Nat → Nat → Nat} {x1 x4 : Int32} {w2 : Int64} {a0 : Nat} (h : wpE (xT 37) ev Q (35, [(0, .ref a0), (1, .int x1), (2, .long w2), (4, .int (x4 + 1))], [], Mm sz sl K L κ ρ)) : wpE (xT 37) ev Q (60, [(0, .ref a0), (1, .int x1), (2, .long w2), (4, .int x4)], [], Mm sz sl K L κ ρ) := by
  refine p_iinc (y := x4 + 1) (ls' := [(4, .int (x4 + 1)), (0, .ref a0), (1, .int x1), (2, .long w2)]) (cc3 c37_60) (by decide) rfl rfl rfl ?_
  refine p_goto (cc3 c37_63) ?_
  exact p_lc (ls' := [(0, .ref a0), (1, .int x1), (2, .long w2), (4, .int (x4 + 1))]) c37_35 rfl rfl h
theorem B38_0 {ev : xV} {Q : Option Value → xM → Prop} {sz sl : Nat} {K L : Nat → Nat} {κ : Nat → Nat → Int32} {ρ : Nat → Nat → Nat} {a0 : Nat} (h : (K a0 = 12) ∧ (((κ a0 10) < 4) → (¬ ρ a0 1 = 0) ∧ (¬ ρ a0 0 = 0) ∧ ((K (ρ a0 1) = 7) ∧ ∃ r κ' ρ', ev 39 [.ref (ρ a0 1), .ref (ρ a0 0)] (Mm sz sl K L κ ρ) (some (.int r)) (Mm sz sl K L κ' ρ') ∧ wpE (xT 38) ev Q (22, [(0, .ref a0)], [.int r], Mm sz sl K L κ' ρ'))) ∧ (¬ ((κ a0 10) < 4) → Q (some (.int ((-4)))) (Mm sz sl K L κ ρ))) : wpE (xT 38) ev Q (0, [(0, .ref a0)], [], Mm sz sl K L κ ρ) := by
  refine p_ald (cc3 c38_0) rfl ?_
  obtain ⟨g1, h⟩ := h
  refine p_geti (cc3 c38_1) g1 rfl ?_
  refine p_push (cc3 c38_4) ?_
  refine p_icmp (cc3 c38_5) (fun c => ?_) (fun c => ?_)
  · have h := h.1 c
    refine p_ald (cc3 c38_11) rfl ?_
    obtain ⟨g2, h⟩ := h
    refine p_getp (cc3 c38_12) g1 rfl g2 ?_
    refine p_ald (cc3 c38_15) rfl ?_
    obtain ⟨g3, h⟩ := h
    refine p_getp (cc3 c38_16) g1 rfl g3 ?_
    obtain ⟨g4, h⟩ := h
    obtain ⟨r, κ', ρ', he, h⟩ := h
    exact p_callV (cc3 c38_19) (Nat.le_of_ble_eq_true rfl) rfl rfl (Nat.le_of_ble_eq_true rfl) g4 he h
  · have h := h.2 c
    refine p_push (cc3 c38_8) ?_
    exact p_ri (cc3 c38_10) trivial h
theorem B38_22 {ev : xV} {Q : Option Value → xM → Prop} {sz sl : Nat} {K L : Nat → Nat} {κ : Nat → Nat → Int32} {ρ : Nat → Nat → Nat} {s0 : Int32} {a0 : Nat} (h : (K a0 = 12) ∧ (¬ ρ a0 0 = 0) ∧ (K (ρ a0 0) = 9) ∧ ((s0 = (-1)) → (¬ ρ a0 1 = 0) ∧ ((K (ρ a0 1) = 7) ∧ ∃ r κ' ρ', ev 41 [.ref (ρ a0 1)] (Mm sz sl K L (U κ (ρ a0 0) 1 0) ρ) (some (.int r)) (Mm sz sl K L κ' ρ') ∧ wpE (xT 38) ev Q (48, [(1, .int s0), (0, .ref a0)], [.int r], Mm sz sl K L κ' ρ'))) ∧ (¬ (s0 = (-1)) → Q (some (.int ((-100) - s0))) (Mm sz sl K L (U κ (ρ a0 0) 1 0) ρ))) : wpE (xT 38) ev Q (22, [(0, .ref a0)], [.int s0], Mm sz sl K L κ ρ) := by
  refine p_ist (ls' := [(1, .int s0), (0, .ref a0)]) (cc3 c38_22) (by decide) rfl ?_
  refine p_ald (cc3 c38_23) rfl ?_
  obtain ⟨g1, h⟩ := h
  obtain ⟨g2, h⟩ := h
  refine p_getp (cc3 c38_24) g1 rfl g2 ?_
  refine p_push (cc3 c38_27) ?_
  obtain ⟨g3, h⟩ := h
  refine p_puti (cc3 c38_28) g3 mm_xpi ?_
  refine p_ild (cc3 c38_31) rfl ?_
  refine p_push (cc3 c38_32) ?_
  refine p_icmp (cc3 c38_33) (fun c => ?_) (fun c => ?_)
  · have h := h.1 c
    refine p_ald (cc3 c38_41) rfl ?_
    obtain ⟨g4, h⟩ := h
    refine p_getp (cc3 c38_42) g1 rfl g4 ?_
    obtain ⟨g5, h⟩ := h
    obtain ⟨r, κ', ρ', he, h⟩ := h
    exact p_callV (cc3 c38_45) (Nat.le_of_ble_eq_true rfl) rfl rfl (Nat.le_of_ble_eq_true rfl) g5 he h
  · have h := h.2 c
    refine p_push (cc3 c38_36) ?_
    refine p_ild (cc3 c38_38) rfl ?_
    refine p_bin (cc3 c38_39) ?_
    exact p_ri (cc3 c38_40) trivial h
theorem B38_48 {ev : xV} {Q : Option Value → xM → Prop} {sz sl : Nat} {K L : Nat → Nat} {κ : Nat → Nat → Int32} {ρ : Nat → Nat → Nat} {x1 s0 : Int32} {a0 : Nat} (h : ((s0 ≤ 400) → ((va_up K sz 6) a0 = 12) ∧ (¬ (ZR ρ sz) a0 1 = 0) ∧ (∃ sz' sl' K' L' κ' ρ', ev 42 [.ref sz, .ref ((ZR ρ sz) a0 1)] (Mm (sz + 1) (sl + 7) (va_up K sz 6) (va_up L sz 7) (Z0 κ sz) (ZR ρ sz)) none (Mm sz' sl' K' L' κ' ρ') ∧ wpE (xT 38) ev Q (68, [(1, .int x1), (0, .ref a0)], [.ref sz], Mm sz' sl' K' L' κ' ρ'))) ∧ (¬ (s0 ≤ 400) → Q (some (.int ((-9)))) (Mm sz sl K L κ ρ))) : wpE (xT 38) ev Q (48, [(1, .int x1), (0, .ref a0)], [.int s0], Mm sz sl K L κ ρ) := by
  refine p_push (cc3 c38_48) ?_
  refine p_icmp (cc3 c38_51) (fun c => ?_) (fun c => ?_)
  · have h := h.1 c
    refine p_new (cc3 c38_57) mm_new ?_
    refine p_dup (cc3 c38_60) rfl ?_
    refine p_ald (cc3 c38_61) rfl ?_
    obtain ⟨g1, h⟩ := h
    obtain ⟨g2, h⟩ := h
    refine p_getp (cc3 c38_62) g1 rfl g2 ?_
    obtain ⟨sz', sl', K', L', κ', ρ', he, h⟩ := h
    exact p_callI (cc3 c38_65) (Nat.le_of_ble_eq_true rfl) rfl rfl (Nat.le_of_ble_eq_true rfl) he h
  · have h := h.2 c
    refine p_push (cc3 c38_54) ?_
    exact p_ri (cc3 c38_56) trivial h
theorem B38_68 {ev : xV} {Q : Option Value → xM → Prop} {sz sl : Nat} {K L : Nat → Nat} {κ : Nat → Nat → Int32} {ρ : Nat → Nat → Nat} {x1 : Int32} {a0 b0 : Nat} (h : (K a0 = 12) ∧ (((κ a0 10) = 0) → (∃ sz' sl' K' L' κ' ρ', ev 44 [.ref sz, .ref b0, .int 0, .int 9999] (Mm (sz + 1) (sl + 5) (va_up K sz 1) (va_up L sz 5) (Z0 κ sz) (ZR ρ sz)) none (Mm sz' sl' K' L' κ' ρ') ∧ wpE (xT 38) ev Q (89, [(2, .ref b0), (1, .int x1), (0, .ref a0)], [.ref sz, .ref a0], Mm sz' sl' K' L' κ' ρ'))) ∧ (¬ ((κ a0 10) = 0) → (¬ ρ a0 5 = 0) ∧ (K (ρ a0 5) = 23) ∧ (vp_in (κ a0 10) (L (ρ a0 5))) ∧ (K b0 = 6) ∧ (¬ b0 = 0) ∧ Q (some (.int (((U κ a0 10 ((κ a0 10) + 1)) a0 10) - 1))) (Mm sz sl K L (U κ a0 10 ((κ a0 10) + 1)) (UR ρ (ρ a0 5) (κ a0 10).toNatClampNeg b0)))) : wpE (xT 38) ev Q (68, [(1, .int x1), (0, .ref a0)], [.ref b0], Mm sz sl K L κ ρ) := by
  refine p_ast (ls' := [(2, .ref b0), (1, .int x1), (0, .ref a0)]) (cc3 c38_68) (by decide) rfl ?_
  refine p_ald (cc3 c38_69) rfl ?_
  obtain ⟨g1, h⟩ := h
  refine p_geti (cc3 c38_70) g1 rfl ?_
  refine p_if (cc3 c38_73) (fun c => ?_) (fun c => ?_)
  · have h := h.1 c
    refine p_ald (cc3 c38_76) rfl ?_
    refine p_new (cc3 c38_77) mm_new ?_
    refine p_dup (cc3 c38_80) rfl ?_
    refine p_ald (cc3 c38_81) rfl ?_
    refine p_push (cc3 c38_82) ?_
    refine p_push (cc3 c38_83) ?_
    obtain ⟨sz', sl', K', L', κ', ρ', he, h⟩ := h
    exact p_callI (cc3 c38_86) (Nat.le_of_ble_eq_true rfl) rfl rfl (Nat.le_of_ble_eq_true rfl) he h
  · have h := h.2 c
    refine p_lc (ls' := [(0, .ref a0), (2, .ref b0)]) c38_92 rfl rfl ?_
    refine p_ald (cct c38_92 rfl) rfl ?_
    obtain ⟨g2, h⟩ := h
    refine p_getp (cc3 c38_93) g1 rfl g2 ?_
    refine p_ald (cc3 c38_96) rfl ?_
    refine p_geti (cc3 c38_97) g1 rfl ?_
    refine p_ald (cc3 c38_100) rfl ?_
    obtain ⟨g3, h⟩ := h
    obtain ⟨g4, h⟩ := h
    obtain ⟨g5, h⟩ := h
    obtain ⟨g6, h⟩ := h
    refine p_astp (cc3 c38_101) g3 g4 g5 g6 mm_xpp ?_
    refine p_ald (cc3 c38_102) rfl ?_
    refine p_dup (cc3 c38_103) rfl ?_
    refine p_geti (cc3 c38_104) g1 rfl ?_
    refine p_push (cc3 c38_107) ?_
    refine p_bin (cc3 c38_108) ?_
    refine p_puti (cc3 c38_109) g1 mm_xpi ?_
    refine p_ald (cc3 c38_112) rfl ?_
    refine p_geti (cc3 c38_113) g1 rfl ?_
    refine p_push (cc3 c38_116) ?_
    refine p_bin (cc3 c38_117) ?_
    exact p_ri (cc3 c38_118) trivial h
theorem B38_89 {ev : xV} {Q : Option Value → xM → Prop} {sz sl : Nat} {K L : Nat → Nat} {κ : Nat → Nat → Int32} {ρ : Nat → Nat → Nat} {x1 : Int32} {a2 a0 b0 b1 : Nat} (h : (K b1 = 12) ∧ (¬ b0 = 0) ∧ (K a0 = 12) ∧ (¬ (UR ρ b1 15 b0) a0 5 = 0) ∧ (K ((UR ρ b1 15 b0) a0 5) = 23) ∧ (vp_in (κ a0 10) (L ((UR ρ b1 15 b0) a0 5))) ∧ (K a2 = 6) ∧ (¬ a2 = 0) ∧ Q (some (.int (((U κ a0 10 ((κ a0 10) + 1)) a0 10) - 1))) (Mm sz sl K L (U κ a0 10 ((κ a0 10) + 1)) (UR (UR ρ b1 15 b0) ((UR ρ b1 15 b0) a0 5) (κ a0 10).toNatClampNeg a2))) : wpE (xT 38) ev Q (89, [(2, .ref a2), (1, .int x1), (0, .ref a0)], [.ref b0, .ref b1], Mm sz sl K L κ ρ) := by
  obtain ⟨g1, h⟩ := h
  obtain ⟨g2, h⟩ := h
  refine p_putp (cc3 c38_89) g1 g2 mm_xpp ?_
  refine p_lc (ls' := [(0, .ref a0), (2, .ref a2)]) c38_92 rfl rfl ?_
  refine p_ald (cct c38_92 rfl) rfl ?_
  obtain ⟨g3, h⟩ := h
  obtain ⟨g4, h⟩ := h
  refine p_getp (cc3 c38_93) g3 rfl g4 ?_
  refine p_ald (cc3 c38_96) rfl ?_
  refine p_geti (cc3 c38_97) g3 rfl ?_
  refine p_ald (cc3 c38_100) rfl ?_
  obtain ⟨g5, h⟩ := h
  obtain ⟨g6, h⟩ := h
  obtain ⟨g7, h⟩ := h
  obtain ⟨g8, h⟩ := h
  refine p_astp (cc3 c38_101) g5 g6 g7 g8 mm_xpp ?_
  refine p_ald (cc3 c38_102) rfl ?_
  refine p_dup (cc3 c38_103) rfl ?_
  refine p_geti (cc3 c38_104) g3 rfl ?_
  refine p_push (cc3 c38_107) ?_
  refine p_bin (cc3 c38_108) ?_
  refine p_puti (cc3 c38_109) g3 mm_xpi ?_
  refine p_ald (cc3 c38_112) rfl ?_
  refine p_geti (cc3 c38_113) g3 rfl ?_
  refine p_push (cc3 c38_116) ?_
  refine p_bin (cc3 c38_117) ?_
  exact p_ri (cc3 c38_118) trivial h
theorem B39_0 {ev : xV} {Q : Option Value → xM → Prop} {sz sl : Nat} {K L : Nat → Nat} {κ : Nat → Nat → Int32} {ρ : Nat → Nat → Nat} {a0 a1 : Nat} (h : (K a0 = 7) ∧ wpE (xT 39) ev Q (7, [(0, .ref a0), (1, .ref a1), (2, .int 0)], [], Mm sz sl K L (U κ a0 2 1) ρ)) : wpE (xT 39) ev Q (0, [(0, .ref a0), (1, .ref a1)], [], Mm sz sl K L κ ρ) := by
  refine p_push (cc3 c39_0) ?_
  refine p_ist (ls' := [(2, .int 0), (0, .ref a0), (1, .ref a1)]) (cc3 c39_1) (by decide) rfl ?_
  refine p_ald (cc3 c39_2) rfl ?_
  refine p_push (cc3 c39_3) ?_
  obtain ⟨g1, h⟩ := h
  refine p_puti (cc3 c39_4) g1 mm_xpi ?_
  exact p_lc (ls' := [(0, .ref a0), (1, .ref a1), (2, .int 0)]) c39_7 rfl rfl h
theorem B39_7 {ev : xV} {Q : Option Value → xM → Prop} {sz sl : Nat} {K L : Nat → Nat} {κ : Nat → Nat → Int32} {ρ : Nat → Nat → Nat} {x2 : Int32} {a0 a1 : Nat} (h : (K a0 = 7) ∧ ((10 < (κ a0 2)) → Q (some (.int x2)) (Mm sz sl K L κ ρ)) ∧ (¬ (10 < (κ a0 2)) → ((K a1 = 9) ∧ ∃ r κ' ρ', ev 18 [.ref a1, .int x2] (Mm sz sl K L κ ρ) (some (.int r)) (Mm sz sl K L κ' ρ') ∧ wpE (xT 39) ev Q (21, [(0, .ref a0), (1, .ref a1), (2, .int x2)], [.int r], Mm sz sl K L κ' ρ')))) : wpE (xT 39) ev Q (7, [(0, .ref a0), (1, .ref a1), (2, .int x2)], [], Mm sz sl K L κ ρ) := by
  refine p_ald (cct c39_7 rfl) rfl ?_
  obtain ⟨g1, h⟩ := h
  refine p_geti (cc3 c39_8) g1 rfl ?_
  refine p_push (cc3 c39_11) ?_
  refine p_icmp (cc3 c39_13) (fun c => ?_) (fun c => ?_)
  · have h := h.1 c
    refine p_ild (cc3 c39_162) rfl ?_
    exact p_ri (cc3 c39_163) trivial h
  · have h := h.2 c
    refine p_ald (cc3 c39_16) rfl ?_
    refine p_ild (cc3 c39_17) rfl ?_
    obtain ⟨g2, h⟩ := h
    obtain ⟨r, κ', ρ', he, h⟩ := h
    exact p_callV (cc3 c39_18) (Nat.le_of_ble_eq_true rfl) rfl rfl (Nat.le_of_ble_eq_true rfl) g2 he h
theorem B39_21 {ev : xV} {Q : Option Value → xM → Prop} {sz sl : Nat} {K L : Nat → Nat} {κ : Nat → Nat → Int32} {ρ : Nat → Nat → Nat} {x2 s0 : Int32} {a0 a1 : Nat} (h : ((s0 < 97) → Q (some (.int x2)) (Mm sz sl K L κ ρ)) ∧ (¬ (s0 < 97) → ((s0 ≤ 104) → ((K a0 = 7) ∧ ∃ r κ' ρ', ev 40 [.ref a0, .ref a1, .int (x2 + 1)] (Mm sz sl K L κ ρ) (some (.int r)) (Mm sz sl K L κ' ρ') ∧ wpE (xT 39) ev Q (45, [(2, .int (x2 + 1)), (3, .int s0), (0, .ref a0), (1, .ref a1)], [.int r], Mm sz sl K L κ' ρ'))) ∧ (¬ (s0 ≤ 104) → Q (some (.int x2)) (Mm sz sl K L κ ρ)))) : wpE (xT 39) ev Q (21, [(0, .ref a0), (1, .ref a1), (2, .int x2)], [.int s0], Mm sz sl K L κ ρ) := by
  refine p_ist (ls' := [(3, .int s0), (0, .ref a0), (1, .ref a1), (2, .int x2)]) (cc3 c39_21) (by decide) rfl ?_
  refine p_ild (cc3 c39_22) rfl ?_
  refine p_push (cc3 c39_23) ?_
  refine p_icmp (cc3 c39_25) (fun c => ?_) (fun c => ?_)
  · have h := h.1 c
    refine p_lc (ls' := [(2, .int x2)]) c39_34 rfl rfl ?_
    refine p_ild (cct c39_34 rfl) rfl ?_
    exact p_ri (cc3 c39_35) trivial h
  · have h := h.2 c
    refine p_ild (cc3 c39_28) rfl ?_
    refine p_push (cc3 c39_29) ?_
    refine p_icmp (cc3 c39_31) (fun c => ?_) (fun c => ?_)
    · have h := h.1 c
      refine p_iinc (y := x2 + 1) (ls' := [(2, .int (x2 + 1)), (3, .int s0), (0, .ref a0), (1, .ref a1)]) (cc3 c39_36) (by decide) rfl rfl rfl ?_
      refine p_ald (cc3 c39_39) rfl ?_
      refine p_ald (cc3 c39_40) rfl ?_
      refine p_ild (cc3 c39_41) rfl ?_
      obtain ⟨g1, h⟩ := h
      obtain ⟨r, κ', ρ', he, h⟩ := h
      exact p_callV (cc3 c39_42) (Nat.le_of_ble_eq_true rfl) rfl rfl (Nat.le_of_ble_eq_true rfl) g1 he h
    · have h := h.2 c
      refine p_lc (ls' := [(2, .int x2)]) c39_34 rfl rfl ?_
      refine p_ild (cct c39_34 rfl) rfl ?_
      exact p_ri (cc3 c39_35) trivial h
theorem B39_45 {ev : xV} {Q : Option Value → xM → Prop} {sz sl : Nat} {K L : Nat → Nat} {κ : Nat → Nat → Int32} {ρ : Nat → Nat → Nat} {x2 x3 s0 : Int32} {a0 a1 : Nat} (h : ((s0 = 0) → Q (some (.int x2)) (Mm sz sl K L κ ρ)) ∧ (¬ (s0 = 0) → (K a0 = 7) ∧ (¬ ρ a0 0 = 0) ∧ (K (ρ a0 0) = 20) ∧ (vp_in ((κ a0 2) - 1) (L (ρ a0 0))) ∧ ((K a1 = 9) ∧ ∃ r κ' ρ', ev 18 [.ref a1, .int (x2 + s0)] (Mm sz sl K L (U κ (ρ a0 0) ((κ a0 2) - 1).toNatClampNeg (x3 - 97)) ρ) (some (.int r)) (Mm sz sl K L κ' ρ') ∧ wpE (xT 39) ev Q (79, [(2, .int (x2 + s0)), (4, .int s0), (3, .int x3), (0, .ref a0), (1, .ref a1)], [.int r], Mm sz sl K L κ' ρ')))) : wpE (xT 39) ev Q (45, [(2, .int x2), (3, .int x3), (0, .ref a0), (1, .ref a1)], [.int s0], Mm sz sl K L κ ρ) := by
  refine p_ist (ls' := [(4, .int s0), (2, .int x2), (3, .int x3), (0, .ref a0), (1, .ref a1)]) (cc3 c39_45) (by decide) rfl ?_
  refine p_ild (cc3 c39_47) rfl ?_
  refine p_if (cc3 c39_49) (fun c => ?_) (fun c => ?_)
  · have h := h.1 c
    refine p_ild (cc3 c39_52) rfl ?_
    exact p_ri (cc3 c39_53) trivial h
  · have h := h.2 c
    refine p_ald (cc3 c39_54) rfl ?_
    obtain ⟨g1, h⟩ := h
    obtain ⟨g2, h⟩ := h
    refine p_getp (cc3 c39_55) g1 rfl g2 ?_
    refine p_ald (cc3 c39_58) rfl ?_
    refine p_geti (cc3 c39_59) g1 rfl ?_
    refine p_push (cc3 c39_62) ?_
    refine p_bin (cc3 c39_63) ?_
    refine p_ild (cc3 c39_64) rfl ?_
    refine p_push (cc3 c39_65) ?_
    refine p_bin (cc3 c39_67) ?_
    obtain ⟨g3, h⟩ := h
    obtain ⟨g4, h⟩ := h
    refine p_asti (cc3 c39_68) g3 g4 mm_xpi ?_
    refine p_ild (cc3 c39_69) rfl ?_
    refine p_ild (cc3 c39_70) rfl ?_
    refine p_bin (cc3 c39_72) ?_
    refine p_ist (ls' := [(2, .int (x2 + s0)), (4, .int s0), (3, .int x3), (0, .ref a0), (1, .ref a1)]) (cc3 c39_73) (by decide) rfl ?_
    refine p_ald (cc3 c39_74) rfl ?_
    refine p_ild (cc3 c39_75) rfl ?_
    obtain ⟨g5, h⟩ := h
    obtain ⟨r, κ', ρ', he, h⟩ := h
    exact p_callV (cc3 c39_76) (Nat.le_of_ble_eq_true rfl) rfl rfl (Nat.le_of_ble_eq_true rfl) g5 he h
theorem B39_79 {ev : xV} {Q : Option Value → xM → Prop} {sz sl : Nat} {K L : Nat → Nat} {κ : Nat → Nat → Int32} {ρ : Nat → Nat → Nat} {x2 x4 x3 s0 : Int32} {a0 a1 : Nat} (h : ((s0 = 47) → wpE (xT 39) ev Q (95, [(0, .ref a0), (1, .ref a1), (2, .int x2), (5, .int s0)], [], Mm sz sl K L κ ρ)) ∧ (¬ (s0 = 47) → ((s0 = 59) → wpE (xT 39) ev Q (95, [(0, .ref a0), (1, .ref a1), (2, .int x2), (5, .int s0)], [], Mm sz sl K L κ ρ)) ∧ (¬ (s0 = 59) → ((s0 = 32) → (K a0 = 7) ∧ (((κ a0 2) = 10) → Q (some (.int x2)) (Mm sz sl K L κ ρ)) ∧ (¬ ((κ a0 2) = 10) → wpE (xT 39) ev Q (7, [(0, .ref a0), (1, .ref a1), (2, .int (x2 + 1))], [], Mm sz sl K L (U κ a0 2 ((κ a0 2) + 1)) ρ))) ∧ (¬ (s0 = 32) → Q (some (.int x2)) (Mm sz sl K L κ ρ))))) : wpE (xT 39) ev Q (79, [(2, .int x2), (4, .int x4), (3, .int x3), (0, .ref a0), (1, .ref a1)], [.int s0], Mm sz sl K L κ ρ) := by
  refine p_ist (ls' := [(5, .int s0), (2, .int x2), (4, .int x4), (3, .int x3), (0, .ref a0), (1, .ref a1)]) (cc3 c39_79) (by decide) rfl ?_
  refine p_ild (cc3 c39_81) rfl ?_
  refine p_push (cc3 c39_83) ?_
  refine p_icmp (cc3 c39_85) (fun c => ?_) (fun c => ?_)
  · have h := h.1 c
    exact p_lc (ls' := [(0, .ref a0), (1, .ref a1), (2, .int x2), (5, .int s0)]) c39_95 rfl rfl h
  · have h := h.2 c
    refine p_ild (cc3 c39_88) rfl ?_
    refine p_push (cc3 c39_90) ?_
    refine p_icmp (cc3 c39_92) (fun c => ?_) (fun c => ?_)
    · have h := h.1 c
      exact p_lc (ls' := [(0, .ref a0), (1, .ref a1), (2, .int x2), (5, .int s0)]) c39_95 rfl rfl h
    · have h := h.2 c
      refine p_ild (cc3 c39_128) rfl ?_
      refine p_push (cc3 c39_130) ?_
      refine p_icmp (cc3 c39_132) (fun c => ?_) (fun c => ?_)
      · have h := h.1 c
        refine p_ald (cc3 c39_135) rfl ?_
        obtain ⟨g1, h⟩ := h
        refine p_geti (cc3 c39_136) g1 rfl ?_
        refine p_push (cc3 c39_139) ?_
        refine p_icmp (cc3 c39_141) (fun c => ?_) (fun c => ?_)
        · have h := h.1 c
          refine p_lc (ls' := [(2, .int x2)]) c39_144 rfl rfl ?_
          refine p_ild (cct c39_144 rfl) rfl ?_
          exact p_ri (cc3 c39_145) trivial h
        · have h := h.2 c
          refine p_iinc (y := x2 + 1) (ls' := [(2, .int (x2 + 1)), (5, .int s0), (4, .int x4), (3, .int x3), (0, .ref a0), (1, .ref a1)]) (cc3 c39_146) (by decide) rfl rfl rfl ?_
          refine p_ald (cc3 c39_149) rfl ?_
          refine p_dup (cc3 c39_150) rfl ?_
          refine p_geti (cc3 c39_151) g1 rfl ?_
          refine p_push (cc3 c39_154) ?_
          refine p_bin (cc3 c39_155) ?_
          refine p_puti (cc3 c39_156) g1 mm_xpi ?_
          refine p_goto (cc3 c39_159) ?_
          exact p_lc (ls' := [(0, .ref a0), (1, .ref a1), (2, .int (x2 + 1))]) c39_7 rfl rfl h
      · have h := h.2 c
        refine p_lc (ls' := [(2, .int x2)]) c39_144 rfl rfl ?_
        refine p_ild (cct c39_144 rfl) rfl ?_
        exact p_ri (cc3 c39_145) trivial h
theorem B39_95 {ev : xV} {Q : Option Value → xM → Prop} {sz sl : Nat} {K L : Nat → Nat} {κ : Nat → Nat → Int32} {ρ : Nat → Nat → Nat} {x2 x5 : Int32} {a0 a1 : Nat} (h : ((x5 = 47) → wpE (xT 39) ev Q (108, [(1, .ref a1), (2, .int x2)], [.int 1, .ref a0], Mm sz sl K L κ ρ)) ∧ (¬ (x5 = 47) → wpE (xT 39) ev Q (108, [(1, .ref a1), (2, .int x2)], [.int 0, .ref a0], Mm sz sl K L κ ρ))) : wpE (xT 39) ev Q (95, [(0, .ref a0), (1, .ref a1), (2, .int x2), (5, .int x5)], [], Mm sz sl K L κ ρ) := by
  refine p_ald (cct c39_95 rfl) rfl ?_
  refine p_ild (cc3 c39_96) rfl ?_
  refine p_push (cc3 c39_98) ?_
  refine p_icmp (cc3 c39_100) (fun c => ?_) (fun c => ?_)
  · have h := h.1 c
    refine p_push (cc3 c39_103) ?_
    refine p_goto (cc3 c39_104) ?_
    exact p_lc (ls' := [(1, .ref a1), (2, .int x2)]) c39_108 rfl rfl h
  · have h := h.2 c
    refine p_push (cc3 c39_107) ?_
    exact p_lc (ls' := [(1, .ref a1), (2, .int x2)]) c39_108 rfl rfl h
theorem B39_108 {ev : xV} {Q : Option Value → xM → Prop} {sz sl : Nat} {K L : Nat → Nat} {κ : Nat → Nat → Int32} {ρ : Nat → Nat → Nat} {x2 s0 : Int32} {a1 b1 : Nat} (h : (K b1 = 7) ∧ (s0 = 0 ∨ s0 = 1) ∧ (K a1 = 9) ∧ (((x2 + 1) = ((U κ b1 3 s0) a1 1)) → Q (some (.int ((-1)))) (Mm sz sl K L (U κ b1 3 s0) ρ)) ∧ (¬ ((x2 + 1) = ((U κ b1 3 s0) a1 1)) → Q (some (.int (x2 + 1))) (Mm sz sl K L (U κ b1 3 s0) ρ))) : wpE (xT 39) ev Q (108, [(1, .ref a1), (2, .int x2)], [.int s0, .ref b1], Mm sz sl K L κ ρ) := by
  obtain ⟨g1, h⟩ := h
  obtain ⟨g2, h⟩ := h
  refine p_putb (cct c39_108 rfl) g1 g2 mm_xpi ?_
  refine p_iinc (y := x2 + 1) (ls' := [(2, .int (x2 + 1)), (1, .ref a1)]) (cc3 c39_111) (by decide) rfl rfl rfl ?_
  refine p_ild (cc3 c39_114) rfl ?_
  refine p_ald (cc3 c39_115) rfl ?_
  obtain ⟨g3, h⟩ := h
  refine p_geti (cc3 c39_116) g3 rfl ?_
  refine p_icmp (cc3 c39_119) (fun c => ?_) (fun c => ?_)
  · have h := h.1 c
    refine p_push (cc3 c39_122) ?_
    refine p_goto (cc3 c39_123) ?_
    refine p_lc (ls' := []) c39_127 rfl rfl ?_
    exact p_ri (cct c39_127 rfl) trivial h
  · have h := h.2 c
    refine p_ild (cc3 c39_126) rfl ?_
    refine p_lc (ls' := []) c39_127 rfl rfl ?_
    exact p_ri (cct c39_127 rfl) trivial h
theorem B40_0 {ev : xV} {Q : Option Value → xM → Prop} {sz sl : Nat} {K L : Nat → Nat} {κ : Nat → Nat → Int32} {ρ : Nat → Nat → Nat} {x2 : Int32} {a0 a1 : Nat} (h : wpE (xT 40) ev Q (8, [(0, .ref a0), (1, .ref a1), (2, .int x2), (3, .int 0), (4, .int 0), (5, .int 0)], [], Mm sz sl K L κ ρ)) : wpE (xT 40) ev Q (0, [(0, .ref a0), (1, .ref a1), (2, .int x2)], [], Mm sz sl K L κ ρ) := by
  refine p_push (cc3 c40_0) ?_
  refine p_ist (ls' := [(3, .int 0), (0, .ref a0), (1, .ref a1), (2, .int x2)]) (cc3 c40_1) (by decide) rfl ?_
  refine p_push (cc3 c40_2) ?_
  refine p_ist (ls' := [(4, .int 0), (3, .int 0), (0, .ref a0), (1, .ref a1), (2, .int x2)]) (cc3 c40_3) (by decide) rfl ?_
  refine p_push (cc3 c40_5) ?_
  refine p_ist (ls' := [(5, .int 0), (4, .int 0), (3, .int 0), (0, .ref a0), (1, .ref a1), (2, .int x2)]) (cc3 c40_6) (by decide) rfl ?_
  exact p_lc (ls' := [(0, .ref a0), (1, .ref a1), (2, .int x2), (3, .int 0), (4, .int 0), (5, .int 0)]) c40_8 rfl rfl h
theorem B40_8 {ev : xV} {Q : Option Value → xM → Prop} {sz sl : Nat} {K L : Nat → Nat} {κ : Nat → Nat → Int32} {ρ : Nat → Nat → Nat} {x2 x3 x4 x5 : Int32} {a0 a1 : Nat} (h : ((3 ≤ x5) → (K a0 = 7) ∧ (¬ ρ a0 1 = 0) ∧ (K (ρ a0 1) = 20) ∧ (vp_in ((κ a0 2) - 1) (L (ρ a0 1))) ∧ Q (some (.int x4)) (Mm sz sl K L (U κ (ρ a0 1) ((κ a0 2) - 1).toNatClampNeg x3) ρ)) ∧ (¬ (3 ≤ x5) → ((K a1 = 9) ∧ ∃ r κ' ρ', ev 18 [.ref a1, .int (x2 + x5)] (Mm sz sl K L κ ρ) (some (.int r)) (Mm sz sl K L κ' ρ') ∧ wpE (xT 40) ev Q (22, [(0, .ref a0), (1, .ref a1), (2, .int x2), (3, .int x3), (4, .int x4), (5, .int x5)], [.int r], Mm sz sl K L κ' ρ')))) : wpE (xT 40) ev Q (8, [(0, .ref a0), (1, .ref a1), (2, .int x2), (3, .int x3), (4, .int x4), (5, .int x5)], [], Mm sz sl K L κ ρ) := by
  refine p_ild (cct c40_8 rfl) rfl ?_
  refine p_push (cc3 c40_10) ?_
  refine p_icmp (cc3 c40_11) (fun c => ?_) (fun c => ?_)
  · have h := h.1 c
    refine p_lc (ls' := [(0, .ref a0), (3, .int x3), (4, .int x4)]) c40_73 rfl rfl ?_
    refine p_ald (cct c40_73 rfl) rfl ?_
    obtain ⟨g1, h⟩ := h
    obtain ⟨g2, h⟩ := h
    refine p_getp (cc3 c40_74) g1 rfl g2 ?_
    refine p_ald (cc3 c40_77) rfl ?_
    refine p_geti (cc3 c40_78) g1 rfl ?_
    refine p_push (cc3 c40_81) ?_
    refine p_bin (cc3 c40_82) ?_
    refine p_ild (cc3 c40_83) rfl ?_
    obtain ⟨g3, h⟩ := h
    obtain ⟨g4, h⟩ := h
    refine p_asti (cc3 c40_84) g3 g4 mm_xpi ?_
    refine p_ild (cc3 c40_85) rfl ?_
    exact p_ri (cc3 c40_87) trivial h
  · have h := h.2 c
    refine p_ald (cc3 c40_14) rfl ?_
    refine p_ild (cc3 c40_15) rfl ?_
    refine p_ild (cc3 c40_16) rfl ?_
    refine p_bin (cc3 c40_18) ?_
    obtain ⟨g1, h⟩ := h
    obtain ⟨r, κ', ρ', he, h⟩ := h
    exact p_callV (cc3 c40_19) (Nat.le_of_ble_eq_true rfl) rfl rfl (Nat.le_of_ble_eq_true rfl) g1 he h
theorem B40_22 {ev : xV} {Q : Option Value → xM → Prop} {sz sl : Nat} {K L : Nat → Nat} {κ : Nat → Nat → Int32} {ρ : Nat → Nat → Nat} {x2 x3 x4 x5 s0 : Int32} {a0 a1 : Nat} (h : ((s0 < 48) → (K a0 = 7) ∧ (¬ ρ a0 1 = 0) ∧ (K (ρ a0 1) = 20) ∧ (vp_in ((κ a0 2) - 1) (L (ρ a0 1))) ∧ Q (some (.int x4)) (Mm sz sl K L (U κ (ρ a0 1) ((κ a0 2) - 1).toNatClampNeg x3) ρ)) ∧ (¬ (s0 < 48) → ((57 < s0) → (K a0 = 7) ∧ (¬ ρ a0 1 = 0) ∧ (K (ρ a0 1) = 20) ∧ (vp_in ((κ a0 2) - 1) (L (ρ a0 1))) ∧ Q (some (.int x4)) (Mm sz sl K L (U κ (ρ a0 1) ((κ a0 2) - 1).toNatClampNeg x3) ρ)) ∧ (¬ (57 < s0) → ((s0 = 48) → ((x5 = 0) → (K a0 = 7) ∧ (¬ ρ a0 1 = 0) ∧ (K (ρ a0 1) = 20) ∧ (vp_in ((κ a0 2) - 1) (L (ρ a0 1))) ∧ Q (some (.int x4)) (Mm sz sl K L (U κ (ρ a0 1) ((κ a0 2) - 1).toNatClampNeg x3) ρ)) ∧ (¬ (x5 = 0) → wpE (xT 40) ev Q (8, [(0, .ref a0), (1, .ref a1), (2, .int x2), (3, .int (((x3 * 10) + s0) - 48)), (4, .int (x4 + 1)), (5, .int (x5 + 1))], [], Mm sz sl K L κ ρ))) ∧ (¬ (s0 = 48) → wpE (xT 40) ev Q (8, [(0, .ref a0), (1, .ref a1), (2, .int x2), (3, .int (((x3 * 10) + s0) - 48)), (4, .int (x4 + 1)), (5, .int (x5 + 1))], [], Mm sz sl K L κ ρ))))) : wpE (xT 40) ev Q (22, [(0, .ref a0), (1, .ref a1), (2, .int x2), (3, .int x3), (4, .int x4), (5, .int x5)], [.int s0], Mm sz sl K L κ ρ) := by
  refine p_ist (ls' := [(6, .int s0), (0, .ref a0), (1, .ref a1), (2, .int x2), (3, .int x3), (4, .int x4), (5, .int x5)]) (cc3 c40_22) (by decide) rfl ?_
  refine p_ild (cc3 c40_24) rfl ?_
  refine p_push (cc3 c40_26) ?_
  refine p_icmp (cc3 c40_28) (fun c => ?_) (fun c => ?_)
  · have h := h.1 c
    refine p_lc (ls' := [(0, .ref a0), (3, .int x3), (4, .int x4)]) c40_73 rfl rfl ?_
    refine p_ald (cct c40_73 rfl) rfl ?_
    obtain ⟨g1, h⟩ := h
    obtain ⟨g2, h⟩ := h
    refine p_getp (cc3 c40_74) g1 rfl g2 ?_
    refine p_ald (cc3 c40_77) rfl ?_
    refine p_geti (cc3 c40_78) g1 rfl ?_
    refine p_push (cc3 c40_81) ?_
    refine p_bin (cc3 c40_82) ?_
    refine p_ild (cc3 c40_83) rfl ?_
    obtain ⟨g3, h⟩ := h
    obtain ⟨g4, h⟩ := h
    refine p_asti (cc3 c40_84) g3 g4 mm_xpi ?_
    refine p_ild (cc3 c40_85) rfl ?_
    exact p_ri (cc3 c40_87) trivial h
  · have h := h.2 c
    refine p_ild (cc3 c40_31) rfl ?_
    refine p_push (cc3 c40_33) ?_
    refine p_icmp (cc3 c40_35) (fun c => ?_) (fun c => ?_)
    · have h := h.1 c
      refine p_lc (ls' := [(0, .ref a0), (3, .int x3), (4, .int x4)]) c40_73 rfl rfl ?_
      refine p_ald (cct c40_73 rfl) rfl ?_
      obtain ⟨g1, h⟩ := h
      obtain ⟨g2, h⟩ := h
      refine p_getp (cc3 c40_74) g1 rfl g2 ?_
      refine p_ald (cc3 c40_77) rfl ?_
      refine p_geti (cc3 c40_78) g1 rfl ?_
      refine p_push (cc3 c40_81) ?_
      refine p_bin (cc3 c40_82) ?_
      refine p_ild (cc3 c40_83) rfl ?_
      obtain ⟨g3, h⟩ := h
      obtain ⟨g4, h⟩ := h
      refine p_asti (cc3 c40_84) g3 g4 mm_xpi ?_
      refine p_ild (cc3 c40_85) rfl ?_
      exact p_ri (cc3 c40_87) trivial h
    · have h := h.2 c
      refine p_ild (cc3 c40_38) rfl ?_
      refine p_push (cc3 c40_40) ?_
      refine p_icmp (cc3 c40_42) (fun c => ?_) (fun c => ?_)
      · have h := h.1 c
        refine p_ild (cc3 c40_45) rfl ?_
        refine p_if (cc3 c40_47) (fun c => ?_) (fun c => ?_)
        · have h := h.1 c
          refine p_goto (cc3 c40_50) ?_
          refine p_lc (ls' := [(0, .ref a0), (3, .int x3), (4, .int x4)]) c40_73 rfl rfl ?_
          refine p_ald (cct c40_73 rfl) rfl ?_
          obtain ⟨g1, h⟩ := h
          obtain ⟨g2, h⟩ := h
          refine p_getp (cc3 c40_74) g1 rfl g2 ?_
          refine p_ald (cc3 c40_77) rfl ?_
          refine p_geti (cc3 c40_78) g1 rfl ?_
          refine p_push (cc3 c40_81) ?_
          refine p_bin (cc3 c40_82) ?_
          refine p_ild (cc3 c40_83) rfl ?_
          obtain ⟨g3, h⟩ := h
          obtain ⟨g4, h⟩ := h
          refine p_asti (cc3 c40_84) g3 g4 mm_xpi ?_
          refine p_ild (cc3 c40_85) rfl ?_
          exact p_ri (cc3 c40_87) trivial h
        · have h := h.2 c
          refine p_lc (ls' := [(0, .ref a0), (1, .ref a1), (2, .int x2), (3, .int x3), (4, .int x4), (5, .int x5), (6, .int s0)]) c40_53 rfl rfl ?_
          refine p_ild (cct c40_53 rfl) rfl ?_
          refine p_push (cc3 c40_54) ?_
          refine p_bin (cc3 c40_56) ?_
          refine p_ild (cc3 c40_57) rfl ?_
          refine p_bin (cc3 c40_59) ?_
          refine p_push (cc3 c40_60) ?_
          refine p_bin (cc3 c40_62) ?_
          refine p_ist (ls' := [(3, .int (((x3 * 10) + s0) - 48)), (0, .ref a0), (1, .ref a1), (2, .int x2), (4, .int x4), (5, .int x5), (6, .int s0)]) (cc3 c40_63) (by decide) rfl ?_
          refine p_iinc (y := x4 + 1) (ls' := [(4, .int (x4 + 1)), (3, .int (((x3 * 10) + s0) - 48)), (0, .ref a0), (1, .ref a1), (2, .int x2), (5, .int x5), (6, .int s0)]) (cc3 c40_64) (by decide) rfl rfl rfl ?_
          refine p_iinc (y := x5 + 1) (ls' := [(5, .int (x5 + 1)), (4, .int (x4 + 1)), (3, .int (((x3 * 10) + s0) - 48)), (0, .ref a0), (1, .ref a1), (2, .int x2), (6, .int s0)]) (cc3 c40_67) (by decide) rfl rfl rfl ?_
          refine p_goto (cc3 c40_70) ?_
          exact p_lc (ls' := [(0, .ref a0), (1, .ref a1), (2, .int x2), (3, .int (((x3 * 10) + s0) - 48)), (4, .int (x4 + 1)), (5, .int (x5 + 1))]) c40_8 rfl rfl h
      · have h := h.2 c
        refine p_lc (ls' := [(0, .ref a0), (1, .ref a1), (2, .int x2), (3, .int x3), (4, .int x4), (5, .int x5), (6, .int s0)]) c40_53 rfl rfl ?_
        refine p_ild (cct c40_53 rfl) rfl ?_
        refine p_push (cc3 c40_54) ?_
        refine p_bin (cc3 c40_56) ?_
        refine p_ild (cc3 c40_57) rfl ?_
        refine p_bin (cc3 c40_59) ?_
        refine p_push (cc3 c40_60) ?_
        refine p_bin (cc3 c40_62) ?_
        refine p_ist (ls' := [(3, .int (((x3 * 10) + s0) - 48)), (0, .ref a0), (1, .ref a1), (2, .int x2), (4, .int x4), (5, .int x5), (6, .int s0)]) (cc3 c40_63) (by decide) rfl ?_
        refine p_iinc (y := x4 + 1) (ls' := [(4, .int (x4 + 1)), (3, .int (((x3 * 10) + s0) - 48)), (0, .ref a0), (1, .ref a1), (2, .int x2), (5, .int x5), (6, .int s0)]) (cc3 c40_64) (by decide) rfl rfl rfl ?_
        refine p_iinc (y := x5 + 1) (ls' := [(5, .int (x5 + 1)), (4, .int (x4 + 1)), (3, .int (((x3 * 10) + s0) - 48)), (0, .ref a0), (1, .ref a1), (2, .int x2), (6, .int s0)]) (cc3 c40_67) (by decide) rfl rfl rfl ?_
        refine p_goto (cc3 c40_70) ?_
        exact p_lc (ls' := [(0, .ref a0), (1, .ref a1), (2, .int x2), (3, .int (((x3 * 10) + s0) - 48)), (4, .int (x4 + 1)), (5, .int (x5 + 1))]) c40_8 rfl rfl h
theorem B41_0 {ev : xV} {Q : Option Value → xM → Prop} {sz sl : Nat} {K L : Nat → Nat} {κ : Nat → Nat → Int32} {ρ : Nat → Nat → Nat} {a0 : Nat} (h : wpE (xT 41) ev Q (4, [(0, .ref a0), (1, .int 0), (2, .int 0)], [], Mm sz sl K L κ ρ)) : wpE (xT 41) ev Q (0, [(0, .ref a0)], [], Mm sz sl K L κ ρ) := by
  refine p_push (cc3 c41_0) ?_
  refine p_ist (ls' := [(1, .int 0), (0, .ref a0)]) (cc3 c41_1) (by decide) rfl ?_
  refine p_push (cc3 c41_2) ?_
  refine p_ist (ls' := [(2, .int 0), (1, .int 0), (0, .ref a0)]) (cc3 c41_3) (by decide) rfl ?_
  exact p_lc (ls' := [(0, .ref a0), (1, .int 0), (2, .int 0)]) c41_4 rfl rfl h
theorem B41_4 {ev : xV} {Q : Option Value → xM → Prop} {sz sl : Nat} {K L : Nat → Nat} {κ : Nat → Nat → Int32} {ρ : Nat → Nat → Nat} {x1 x2 : Int32} {a0 : Nat} (h : (K a0 = 7) ∧ (((κ a0 2) ≤ x2) → Q (some (.int x1)) (Mm sz sl K L κ ρ)) ∧ (¬ ((κ a0 2) ≤ x2) → ((10 ≤ x2) → Q (some (.int x1)) (Mm sz sl K L κ ρ)) ∧ (¬ (10 ≤ x2) → (((κ a0 3) = 0) → wpE (xT 41) ev Q (44, [(0, .ref a0), (1, .int x1), (2, .int x2)], [.int 0], Mm sz sl K L κ ρ)) ∧ (¬ ((κ a0 3) = 0) → ((x2 ≤ 0) → wpE (xT 41) ev Q (44, [(0, .ref a0), (1, .int x1), (2, .int x2)], [.int 0], Mm sz sl K L κ ρ)) ∧ (¬ (x2 ≤ 0) → ((((κ a0 2) - 1) ≤ x2) → wpE (xT 41) ev Q (44, [(0, .ref a0), (1, .int x1), (2, .int x2)], [.int 0], Mm sz sl K L κ ρ)) ∧ (¬ (((κ a0 2) - 1) ≤ x2) → wpE (xT 41) ev Q (44, [(0, .ref a0), (1, .int x1), (2, .int x2)], [.int 1], Mm sz sl K L κ ρ))))))) : wpE (xT 41) ev Q (4, [(0, .ref a0), (1, .int x1), (2, .int x2)], [], Mm sz sl K L κ ρ) := by
  refine p_ild (cct c41_4 rfl) rfl ?_
  refine p_ald (cc3 c41_5) rfl ?_
  obtain ⟨g1, h⟩ := h
  refine p_geti (cc3 c41_6) g1 rfl ?_
  refine p_icmp (cc3 c41_9) (fun c => ?_) (fun c => ?_)
  · have h := h.1 c
    refine p_lc (ls' := [(1, .int x1)]) c41_75 rfl rfl ?_
    refine p_ild (cct c41_75 rfl) rfl ?_
    exact p_ri (cc3 c41_76) trivial h
  · have h := h.2 c
    refine p_ild (cc3 c41_12) rfl ?_
    refine p_push (cc3 c41_13) ?_
    refine p_icmp (cc3 c41_15) (fun c => ?_) (fun c => ?_)
    · have h := h.1 c
      refine p_lc (ls' := [(1, .int x1)]) c41_75 rfl rfl ?_
      refine p_ild (cct c41_75 rfl) rfl ?_
      exact p_ri (cc3 c41_76) trivial h
    · have h := h.2 c
      refine p_ald (cc3 c41_18) rfl ?_
      refine p_geti (cc3 c41_19) g1 rfl ?_
      refine p_if (cc3 c41_22) (fun c => ?_) (fun c => ?_)
      · have h := h.1 c
        refine p_push (cct c41_43 rfl) ?_
        exact h
      · have h := h.2 c
        refine p_ild (cc3 c41_25) rfl ?_
        refine p_if (cc3 c41_26) (fun c => ?_) (fun c => ?_)
        · have h := h.1 c
          refine p_push (cct c41_43 rfl) ?_
          exact h
        · have h := h.2 c
          refine p_ild (cc3 c41_29) rfl ?_
          refine p_ald (cc3 c41_30) rfl ?_
          refine p_geti (cc3 c41_31) g1 rfl ?_
          refine p_push (cc3 c41_34) ?_
          refine p_bin (cc3 c41_35) ?_
          refine p_icmp (cc3 c41_36) (fun c => ?_) (fun c => ?_)
          · have h := h.1 c
            refine p_push (cct c41_43 rfl) ?_
            exact h
          · have h := h.2 c
            refine p_push (cc3 c41_39) ?_
            refine p_goto (cc3 c41_40) ?_
            exact h
theorem B41_44 {ev : xV} {Q : Option Value → xM → Prop} {sz sl : Nat} {K L : Nat → Nat} {κ : Nat → Nat → Int32} {ρ : Nat → Nat → Nat} {x1 x2 s0 : Int32} {a0 : Nat} (h : ((s0 = 0) → (K a0 = 7) ∧ (¬ ρ a0 1 = 0) ∧ (K (ρ a0 1) = 20) ∧ (vp_in x2 (L (ρ a0 1))) ∧ wpE (xT 41) ev Q (4, [(0, .ref a0), (1, .int (x1 + (κ (ρ a0 1) x2.toNatClampNeg))), (2, .int (x2 + 1))], [], Mm sz sl K L κ ρ)) ∧ (¬ (s0 = 0) → (K a0 = 7) ∧ (¬ ρ a0 1 = 0) ∧ (K (ρ a0 1) = 20) ∧ (vp_in x2 (L (ρ a0 1))) ∧ wpE (xT 41) ev Q (4, [(0, .ref a0), (1, .int (x1 + (2 * (κ (ρ a0 1) x2.toNatClampNeg)))), (2, .int (x2 + 1))], [], Mm sz sl K L κ ρ))) : wpE (xT 41) ev Q (44, [(0, .ref a0), (1, .int x1), (2, .int x2)], [.int s0], Mm sz sl K L κ ρ) := by
  refine p_ist (ls' := [(3, .int s0), (0, .ref a0), (1, .int x1), (2, .int x2)]) (cct c41_44 rfl) (by decide) rfl ?_
  refine p_ild (cc3 c41_45) rfl ?_
  refine p_ild (cc3 c41_46) rfl ?_
  refine p_if (cc3 c41_47) (fun c => ?_) (fun c => ?_)
  · have h := h.1 c
    refine p_ald (cc3 c41_61) rfl ?_
    obtain ⟨g1, h⟩ := h
    obtain ⟨g2, h⟩ := h
    refine p_getp (cc3 c41_62) g1 rfl g2 ?_
    refine p_ild (cc3 c41_65) rfl ?_
    obtain ⟨g3, h⟩ := h
    obtain ⟨g4, h⟩ := h
    refine p_aldi (cc3 c41_66) g3 g4 rfl ?_
    refine p_lc (ls' := [(0, .ref a0), (2, .int x2)]) c41_67 rfl rfl ?_
    refine p_bin (cct c41_67 rfl) ?_
    refine p_ist (ls' := [(1, .int (x1 + (κ (ρ a0 1) x2.toNatClampNeg))), (0, .ref a0), (2, .int x2)]) (cc3 c41_68) (by decide) rfl ?_
    refine p_iinc (y := x2 + 1) (ls' := [(2, .int (x2 + 1)), (1, .int (x1 + (κ (ρ a0 1) x2.toNatClampNeg))), (0, .ref a0)]) (cc3 c41_69) (by decide) rfl rfl rfl ?_
    refine p_goto (cc3 c41_72) ?_
    exact p_lc (ls' := [(0, .ref a0), (1, .int (x1 + (κ (ρ a0 1) x2.toNatClampNeg))), (2, .int (x2 + 1))]) c41_4 rfl rfl h
  · have h := h.2 c
    refine p_push (cc3 c41_50) ?_
    refine p_ald (cc3 c41_51) rfl ?_
    obtain ⟨g1, h⟩ := h
    obtain ⟨g2, h⟩ := h
    refine p_getp (cc3 c41_52) g1 rfl g2 ?_
    refine p_ild (cc3 c41_55) rfl ?_
    obtain ⟨g3, h⟩ := h
    obtain ⟨g4, h⟩ := h
    refine p_aldi (cc3 c41_56) g3 g4 rfl ?_
    refine p_bin (cc3 c41_57) ?_
    refine p_goto (cc3 c41_58) ?_
    refine p_lc (ls' := [(0, .ref a0), (2, .int x2)]) c41_67 rfl rfl ?_
    refine p_bin (cct c41_67 rfl) ?_
    refine p_ist (ls' := [(1, .int (x1 + (2 * (κ (ρ a0 1) x2.toNatClampNeg)))), (0, .ref a0), (2, .int x2)]) (cc3 c41_68) (by decide) rfl ?_
    refine p_iinc (y := x2 + 1) (ls' := [(2, .int (x2 + 1)), (1, .int (x1 + (2 * (κ (ρ a0 1) x2.toNatClampNeg)))), (0, .ref a0)]) (cc3 c41_69) (by decide) rfl rfl rfl ?_
    refine p_goto (cc3 c41_72) ?_
    exact p_lc (ls' := [(0, .ref a0), (1, .int (x1 + (2 * (κ (ρ a0 1) x2.toNatClampNeg)))), (2, .int (x2 + 1))]) c41_4 rfl rfl h
theorem B42_0 {ev : xV} {Q : Option Value → xM → Prop} {sz sl : Nat} {K L : Nat → Nat} {κ : Nat → Nat → Int32} {ρ : Nat → Nat → Nat} {a0 a1 : Nat} (h : (K a1 = 7) ∧ (K a0 = 6) ∧ (((U κ a0 0 (κ a1 2)) a1 3) = 0 ∨ ((U κ a0 0 (κ a1 2)) a1 3) = 1) ∧ (∃ r κ' ρ', ev 41 [.ref a1] (Mm sz sl K L (U (U κ a0 0 (κ a1 2)) a0 2 ((U κ a0 0 (κ a1 2)) a1 3)) ρ) (some (.int r)) (Mm sz sl K L κ' ρ') ∧ wpE (xT 42) ev Q (25, [(0, .ref a0), (1, .ref a1)], [.int r, .ref a0], Mm sz sl K L κ' ρ'))) : wpE (xT 42) ev Q (0, [(0, .ref a0), (1, .ref a1)], [], Mm sz sl K L κ ρ) := by
  refine p_ald (cc3 c42_0) rfl ?_
  refine p_obj (cc3 c42_1) (Nat.le_of_ble_eq_true rfl) ?_
  refine p_ald (cc3 c42_4) rfl ?_
  refine p_ald (cc3 c42_5) rfl ?_
  obtain ⟨g1, h⟩ := h
  refine p_geti (cc3 c42_6) g1 rfl ?_
  obtain ⟨g2, h⟩ := h
  refine p_puti (cc3 c42_9) g2 mm_xpi ?_
  refine p_ald (cc3 c42_12) rfl ?_
  refine p_ald (cc3 c42_13) rfl ?_
  refine p_geti (cc3 c42_14) g1 rfl ?_
  obtain ⟨g3, h⟩ := h
  refine p_putb (cc3 c42_17) g2 g3 mm_xpi ?_
  refine p_ald (cc3 c42_20) rfl ?_
  refine p_ald (cc3 c42_21) rfl ?_
  obtain ⟨r, κ', ρ', he, h⟩ := h
  exact p_callV (cc3 c42_22) (Nat.le_of_ble_eq_true rfl) rfl rfl (Nat.le_of_ble_eq_true rfl) g1 he h
theorem B42_25 {ev : xV} {Q : Option Value → xM → Prop} {sz sl : Nat} {K L : Nat → Nat} {κ : Nat → Nat → Int32} {ρ : Nat → Nat → Nat} {s0 : Int32} {a0 a1 b1 : Nat} (h : (K b1 = 6) ∧ (K a1 = 7) ∧ (¬ ρ a1 0 = 0) ∧ (K a0 = 6) ∧ (∃ ra sz' sl' K' L' κ' ρ', ev 35 [.ref (ρ a1 0), .int ((U κ b1 1 s0) a0 0)] (Mm sz sl K L (U κ b1 1 s0) ρ) (some (.ref ra)) (Mm sz' sl' K' L' κ' ρ') ∧ wpE (xT 42) ev Q (40, [(0, .ref a0), (1, .ref a1)], [.ref ra, .ref a0], Mm sz' sl' K' L' κ' ρ'))) : wpE (xT 42) ev Q (25, [(0, .ref a0), (1, .ref a1)], [.int s0, .ref b1], Mm sz sl K L κ ρ) := by
  obtain ⟨g1, h⟩ := h
  refine p_puti (cc3 c42_25) g1 mm_xpi ?_
  refine p_ald (cc3 c42_28) rfl ?_
  refine p_ald (cc3 c42_29) rfl ?_
  obtain ⟨g2, h⟩ := h
  obtain ⟨g3, h⟩ := h
  refine p_getp (cc3 c42_30) g2 rfl g3 ?_
  refine p_ald (cc3 c42_33) rfl ?_
  obtain ⟨g4, h⟩ := h
  refine p_geti (cc3 c42_34) g4 rfl ?_
  obtain ⟨ra, sz', sl', K', L', κ', ρ', he, h⟩ := h
  exact p_callS (cc3 c42_37) (Nat.le_of_ble_eq_true rfl) rfl rfl (Nat.le_of_ble_eq_true rfl) he h
theorem B42_40 {ev : xV} {Q : Option Value → xM → Prop} {sz sl : Nat} {K L : Nat → Nat} {κ : Nat → Nat → Int32} {ρ : Nat → Nat → Nat} {a0 a1 b0 b1 : Nat} (h : (K b1 = 6) ∧ (¬ b0 = 0) ∧ (K a1 = 7) ∧ (¬ (UR ρ b1 3 b0) a1 1 = 0) ∧ (K a0 = 6) ∧ (∃ ra sz' sl' K' L' κ' ρ', ev 35 [.ref ((UR ρ b1 3 b0) a1 1), .int (κ a0 0)] (Mm sz sl K L κ (UR ρ b1 3 b0)) (some (.ref ra)) (Mm sz' sl' K' L' κ' ρ') ∧ wpE (xT 42) ev Q (55, [(0, .ref a0), (1, .ref a1)], [.ref ra, .ref a0], Mm sz' sl' K' L' κ' ρ'))) : wpE (xT 42) ev Q (40, [(0, .ref a0), (1, .ref a1)], [.ref b0, .ref b1], Mm sz sl K L κ ρ) := by
  obtain ⟨g1, h⟩ := h
  obtain ⟨g2, h⟩ := h
  refine p_putp (cc3 c42_40) g1 g2 mm_xpp ?_
  refine p_ald (cc3 c42_43) rfl ?_
  refine p_ald (cc3 c42_44) rfl ?_
  obtain ⟨g3, h⟩ := h
  obtain ⟨g4, h⟩ := h
  refine p_getp (cc3 c42_45) g3 rfl g4 ?_
  refine p_ald (cc3 c42_48) rfl ?_
  obtain ⟨g5, h⟩ := h
  refine p_geti (cc3 c42_49) g5 rfl ?_
  obtain ⟨ra, sz', sl', K', L', κ', ρ', he, h⟩ := h
  exact p_callS (cc3 c42_52) (Nat.le_of_ble_eq_true rfl) rfl rfl (Nat.le_of_ble_eq_true rfl) he h
theorem B42_55 {ev : xV} {Q : Option Value → xM → Prop} {sz sl : Nat} {K L : Nat → Nat} {κ : Nat → Nat → Int32} {ρ : Nat → Nat → Nat} {a0 a1 b0 b1 : Nat} (h : (K b1 = 6) ∧ (¬ b0 = 0) ∧ (K a0 = 6) ∧ (¬ (κ a0 0) < 0) ∧ ((κ a0 0).toNatClampNeg ≤ 100000) ∧ ((va_up K sz 20) a0 = 6) ∧ (¬ sz = 0) ∧ (¬ ((Z0 κ sz) a0 1) < 0) ∧ (((Z0 κ sz) a0 1).toNatClampNeg ≤ 100000) ∧ ((va_up (va_up K sz 20) (sz + 1) 21) a0 = 6) ∧ (¬ (sz + 1) = 0) ∧ wpE (xT 42) ev Q (82, [(0, .ref a0), (2, .int 0), (3, .int 0)], [], Mm ((sz + 1) + 1) ((sl + (κ a0 0).toNatClampNeg) + ((Z0 κ sz) a0 1).toNatClampNeg) (va_up (va_up K sz 20) (sz + 1) 21) (va_up (va_up L sz ((κ a0 0).toNatClampNeg)) (sz + 1) (((Z0 κ sz) a0 1).toNatClampNeg)) (Z0 (Z0 κ sz) (sz + 1)) (UR (ZR (UR (ZR (UR ρ b1 4 b0) sz) a0 5 sz) (sz + 1)) a0 6 (sz + 1)))) : wpE (xT 42) ev Q (55, [(0, .ref a0), (1, .ref a1)], [.ref b0, .ref b1], Mm sz sl K L κ ρ) := by
  obtain ⟨g1, h⟩ := h
  obtain ⟨g2, h⟩ := h
  refine p_putp (cc3 c42_55) g1 g2 mm_xpp ?_
  refine p_ald (cc3 c42_58) rfl ?_
  refine p_ald (cc3 c42_59) rfl ?_
  obtain ⟨g3, h⟩ := h
  refine p_geti (cc3 c42_60) g3 rfl ?_
  obtain ⟨g4, h⟩ := h
  obtain ⟨g5, h⟩ := h
  refine p_newa (cc3 c42_63) g4 rfl g5 mm_new ?_
  obtain ⟨g6, h⟩ := h
  obtain ⟨g7, h⟩ := h
  refine p_putp (cc3 c42_65) g6 g7 mm_xpp ?_
  refine p_ald (cc3 c42_68) rfl ?_
  refine p_ald (cc3 c42_69) rfl ?_
  refine p_geti (cc3 c42_70) g6 rfl ?_
  obtain ⟨g8, h⟩ := h
  obtain ⟨g9, h⟩ := h
  refine p_newa (cc3 c42_73) g8 rfl g9 mm_new ?_
  obtain ⟨g10, h⟩ := h
  obtain ⟨g11, h⟩ := h
  refine p_putp (cc3 c42_75) g10 g11 mm_xpp ?_
  refine p_push (cc3 c42_78) ?_
  refine p_ist (ls' := [(2, .int 0), (0, .ref a0), (1, .ref a1)]) (cc3 c42_79) (by decide) rfl ?_
  refine p_push (cc3 c42_80) ?_
  refine p_ist (ls' := [(3, .int 0), (2, .int 0), (0, .ref a0), (1, .ref a1)]) (cc3 c42_81) (by decide) rfl ?_
  exact p_lc (ls' := [(0, .ref a0), (2, .int 0), (3, .int 0)]) c42_82 rfl rfl h
theorem B42_82 {ev : xV} {Q : Option Value → xM → Prop} {sz sl : Nat} {K L : Nat → Nat} {κ : Nat → Nat → Int32} {ρ : Nat → Nat → Nat} {x2 x3 : Int32} {a0 : Nat} (h : (K a0 = 6) ∧ (((κ a0 0) ≤ x3) → wpE (xT 42) ev Q (128, [(0, .ref a0), (2, .int x2), (3, .int ((κ a0 0) - 2))], [], Mm sz sl K L κ ρ)) ∧ (¬ ((κ a0 0) ≤ x3) → (¬ ρ a0 5 = 0) ∧ (¬ ρ a0 4 = 0) ∧ (K (ρ a0 4) = 20) ∧ (vp_in x3 (L (ρ a0 4))) ∧ (K (ρ a0 5) = 20) ∧ (vp_in x3 (L (ρ a0 5))) ∧ (∃ r κ' ρ', ev 43 [.ref a0, .int x2, .int x3] (Mm sz sl K L (U κ (ρ a0 5) x3.toNatClampNeg (x2 + (((κ (ρ a0 4) x3.toNatClampNeg) - 1) / 2))) ρ) (some (.int r)) (Mm sz sl K L κ' ρ') ∧ wpE (xT 42) ev Q (114, [(0, .ref a0), (2, .int x2), (3, .int x3)], [.int r], Mm sz sl K L κ' ρ')))) : wpE (xT 42) ev Q (82, [(0, .ref a0), (2, .int x2), (3, .int x3)], [], Mm sz sl K L κ ρ) := by
  refine p_ild (cct c42_82 rfl) rfl ?_
  refine p_ald (cc3 c42_83) rfl ?_
  obtain ⟨g1, h⟩ := h
  refine p_geti (cc3 c42_84) g1 rfl ?_
  refine p_icmp (cc3 c42_87) (fun c => ?_) (fun c => ?_)
  · have h := h.1 c
    refine p_ald (cc3 c42_121) rfl ?_
    refine p_geti (cc3 c42_122) g1 rfl ?_
    refine p_push (cc3 c42_125) ?_
    refine p_bin (cc3 c42_126) ?_
    refine p_ist (ls' := [(3, .int ((κ a0 0) - 2)), (0, .ref a0), (2, .int x2)]) (cc3 c42_127) (by decide) rfl ?_
    exact p_lc (ls' := [(0, .ref a0), (2, .int x2), (3, .int ((κ a0 0) - 2))]) c42_128 rfl rfl h
  · have h := h.2 c
    refine p_ald (cc3 c42_90) rfl ?_
    obtain ⟨g2, h⟩ := h
    refine p_getp (cc3 c42_91) g1 rfl g2 ?_
    refine p_ild (cc3 c42_94) rfl ?_
    refine p_ild (cc3 c42_95) rfl ?_
    refine p_ald (cc3 c42_96) rfl ?_
    obtain ⟨g3, h⟩ := h
    refine p_getp (cc3 c42_97) g1 rfl g3 ?_
    refine p_ild (cc3 c42_100) rfl ?_
    obtain ⟨g4, h⟩ := h
    obtain ⟨g5, h⟩ := h
    refine p_aldi (cc3 c42_101) g4 g5 rfl ?_
    refine p_push (cc3 c42_102) ?_
    refine p_bin (cc3 c42_103) ?_
    refine p_push (cc3 c42_104) ?_
    refine p_div (cc3 c42_105) (by decide) ?_
    refine p_bin (cc3 c42_106) ?_
    obtain ⟨g6, h⟩ := h
    obtain ⟨g7, h⟩ := h
    refine p_asti (cc3 c42_107) g6 g7 mm_xpi ?_
    refine p_ald (cc3 c42_108) rfl ?_
    refine p_ild (cc3 c42_109) rfl ?_
    refine p_ild (cc3 c42_110) rfl ?_
    obtain ⟨r, κ', ρ', he, h⟩ := h
    exact p_callV (cc3 c42_111) (Nat.le_of_ble_eq_true rfl) rfl rfl (Nat.le_of_ble_eq_true rfl) g1 he h
theorem B42_114 {ev : xV} {Q : Option Value → xM → Prop} {sz sl : Nat} {K L : Nat → Nat} {κ : Nat → Nat → Int32} {ρ : Nat → Nat → Nat} {x2 x3 s0 : Int32} {a0 : Nat} (h : wpE (xT 42) ev Q (82, [(0, .ref a0), (2, .int s0), (3, .int (x3 + 1))], [], Mm sz sl K L κ ρ)) : wpE (xT 42) ev Q (114, [(0, .ref a0), (2, .int x2), (3, .int x3)], [.int s0], Mm sz sl K L κ ρ) := by
  refine p_ist (ls' := [(2, .int s0), (0, .ref a0), (3, .int x3)]) (cc3 c42_114) (by decide) rfl ?_
  refine p_iinc (y := x3 + 1) (ls' := [(3, .int (x3 + 1)), (2, .int s0), (0, .ref a0)]) (cc3 c42_115) (by decide) rfl rfl rfl ?_
  refine p_goto (cc3 c42_118) ?_
  exact p_lc (ls' := [(0, .ref a0), (2, .int s0), (3, .int (x3 + 1))]) c42_82 rfl rfl h
theorem B42_128 {ev : xV} {Q : Option Value → xM → Prop} {sz sl : Nat} {K L : Nat → Nat} {κ : Nat → Nat → Int32} {ρ : Nat → Nat → Nat} {x2 x3 : Int32} {a0 : Nat} (h : (K a0 = 6) ∧ (((κ a0 2) = 0) → Q none (Mm sz sl K L κ ρ)) ∧ (¬ ((κ a0 2) = 0) → ((x3 ≤ 0) → Q none (Mm sz sl K L κ ρ)) ∧ (¬ (x3 ≤ 0) → (∃ r κ' ρ', ev 43 [.ref a0, .int x2, .int x3] (Mm sz sl K L κ ρ) (some (.int r)) (Mm sz sl K L κ' ρ') ∧ wpE (xT 42) ev Q (145, [(0, .ref a0), (2, .int x2), (3, .int x3)], [.int r], Mm sz sl K L κ' ρ'))))) : wpE (xT 42) ev Q (128, [(0, .ref a0), (2, .int x2), (3, .int x3)], [], Mm sz sl K L κ ρ) := by
  refine p_ald (cct c42_128 rfl) rfl ?_
  obtain ⟨g1, h⟩ := h
  refine p_geti (cc3 c42_129) g1 rfl ?_
  refine p_if (cc3 c42_132) (fun c => ?_) (fun c => ?_)
  · have h := h.1 c
    refine p_lc (ls' := []) c42_152 rfl rfl ?_
    exact p_rv (cct c42_152 rfl) h
  · have h := h.2 c
    refine p_ild (cc3 c42_135) rfl ?_
    refine p_if (cc3 c42_136) (fun c => ?_) (fun c => ?_)
    · have h := h.1 c
      refine p_lc (ls' := []) c42_152 rfl rfl ?_
      exact p_rv (cct c42_152 rfl) h
    · have h := h.2 c
      refine p_ald (cc3 c42_139) rfl ?_
      refine p_ild (cc3 c42_140) rfl ?_
      refine p_ild (cc3 c42_141) rfl ?_
      obtain ⟨r, κ', ρ', he, h⟩ := h
      exact p_callV (cc3 c42_142) (Nat.le_of_ble_eq_true rfl) rfl rfl (Nat.le_of_ble_eq_true rfl) g1 he h
theorem B42_145 {ev : xV} {Q : Option Value → xM → Prop} {sz sl : Nat} {K L : Nat → Nat} {κ : Nat → Nat → Int32} {ρ : Nat → Nat → Nat} {x2 x3 s0 : Int32} {a0 : Nat} (h : wpE (xT 42) ev Q (128, [(0, .ref a0), (2, .int s0), (3, .int (x3 + (-1)))], [], Mm sz sl K L κ ρ)) : wpE (xT 42) ev Q (145, [(0, .ref a0), (2, .int x2), (3, .int x3)], [.int s0], Mm sz sl K L κ ρ) := by
  refine p_ist (ls' := [(2, .int s0), (0, .ref a0), (3, .int x3)]) (cc3 c42_145) (by decide) rfl ?_
  refine p_iinc (y := x3 + (-1)) (ls' := [(3, .int (x3 + (-1))), (2, .int s0), (0, .ref a0)]) (cc3 c42_146) (by decide) rfl rfl rfl ?_
  refine p_goto (cc3 c42_149) ?_
  exact p_lc (ls' := [(0, .ref a0), (2, .int s0), (3, .int (x3 + (-1)))]) c42_128 rfl rfl h
