theorem B99_0 {ev : xV} {Q : Option Value → xM → Prop} {sz sl : Nat} {K L : Nat → Nat} {κ : Nat → Nat → Int32} {ρ : Nat → Nat → Nat} {a0 : Nat} (h : (K a0 = 12) ∧ (((κ a0 13) < 6) → (¬ ρ a0 2 = 0) ∧ (¬ ρ a0 0 = 0) ∧ ((K (ρ a0 2) = 11) ∧ ∃ r κ' ρ', ev 16 [.ref (ρ a0 2), .ref (ρ a0 0)] (Mm sz sl K L κ ρ) (some (.int r)) (Mm sz sl K L κ' ρ') ∧ wpE (xT 99) ev Q (23, [(0, .ref a0)], [.int r], Mm sz sl K L κ' ρ'))) ∧ (¬ ((κ a0 13) < 6) → Q (some (.int ((-4)))) (Mm sz sl K L κ ρ))) : wpE (xT 99) ev Q (0, [(0, .ref a0)], [], Mm sz sl K L κ ρ) := by
  refine p_ald (cc3 c99_0) rfl ?_
  obtain ⟨g1, h⟩ := h
  refine p_geti (cc3 c99_1) g1 rfl ?_
  refine p_push (cc3 c99_4) ?_
  refine p_icmp (cc3 c99_6) (fun c => ?_) (fun c => ?_)
  · have h := h.1 c
    refine p_ald (cc3 c99_12) rfl ?_
    obtain ⟨g2, h⟩ := h
    refine p_getp (cc3 c99_13) g1 rfl g2 ?_
    refine p_ald (cc3 c99_16) rfl ?_
    obtain ⟨g3, h⟩ := h
    refine p_getp (cc3 c99_17) g1 rfl g3 ?_
    obtain ⟨g4, h⟩ := h
    obtain ⟨r, κ', ρ', he, h⟩ := h
    exact p_callV (cc3 c99_20) (Nat.le_of_ble_eq_true rfl) rfl rfl (Nat.le_of_ble_eq_true rfl) g4 he h
  · have h := h.2 c
    refine p_push (cc3 c99_9) ?_
    exact p_ri (cc3 c99_11) trivial h
theorem B99_23 {ev : xV} {Q : Option Value → xM → Prop} {sz sl : Nat} {K L : Nat → Nat} {κ : Nat → Nat → Int32} {ρ : Nat → Nat → Nat} {s0 : Int32} {a0 : Nat} (h : (K a0 = 12) ∧ (¬ ρ a0 0 = 0) ∧ (K (ρ a0 0) = 9) ∧ ((s0 = (-1)) → (¬ ρ a0 8 = 0) ∧ ((va_up K sz 10) a0 = 12) ∧ (¬ (ZR ρ sz) a0 2 = 0) ∧ (∃ sz' sl' K' L' κ' ρ', ev 34 [.ref sz, .ref ((ZR ρ sz) a0 2)] (Mm (sz + 1) (sl + 4) (va_up K sz 10) (va_up L sz 4) (Z0 (U κ (ρ a0 0) 1 0) sz) (ZR ρ sz)) none (Mm sz' sl' K' L' κ' ρ') ∧ wpE (xT 99) ev Q (61, [(1, .int s0), (0, .ref a0)], [.ref sz, .int ((U κ (ρ a0 0) 1 0) a0 13), .ref (ρ a0 8)], Mm sz' sl' K' L' κ' ρ'))) ∧ (¬ (s0 = (-1)) → Q (some (.int ((-100) - s0))) (Mm sz sl K L (U κ (ρ a0 0) 1 0) ρ))) : wpE (xT 99) ev Q (23, [(0, .ref a0)], [.int s0], Mm sz sl K L κ ρ) := by
  refine p_ist (ls' := [(1, .int s0), (0, .ref a0)]) (cc3 c99_23) (by decide) rfl ?_
  refine p_ald (cc3 c99_24) rfl ?_
  obtain ⟨g1, h⟩ := h
  obtain ⟨g2, h⟩ := h
  refine p_getp (cc3 c99_25) g1 rfl g2 ?_
  refine p_push (cc3 c99_28) ?_
  obtain ⟨g3, h⟩ := h
  refine p_puti (cc3 c99_29) g3 mm_xpi ?_
  refine p_ild (cc3 c99_32) rfl ?_
  refine p_push (cc3 c99_33) ?_
  refine p_icmp (cc3 c99_34) (fun c => ?_) (fun c => ?_)
  · have h := h.1 c
    refine p_ald (cc3 c99_42) rfl ?_
    obtain ⟨g4, h⟩ := h
    refine p_getp (cc3 c99_43) g1 rfl g4 ?_
    refine p_ald (cc3 c99_46) rfl ?_
    refine p_geti (cc3 c99_47) g1 rfl ?_
    refine p_new (cc3 c99_50) mm_new ?_
    refine p_dup (cc3 c99_53) rfl ?_
    refine p_ald (cc3 c99_54) rfl ?_
    obtain ⟨g5, h⟩ := h
    obtain ⟨g6, h⟩ := h
    refine p_getp (cc3 c99_55) g5 rfl g6 ?_
    obtain ⟨sz', sl', K', L', κ', ρ', he, h⟩ := h
    exact p_callI (cc3 c99_58) (Nat.le_of_ble_eq_true rfl) rfl rfl (Nat.le_of_ble_eq_true rfl) he h
  · have h := h.2 c
    refine p_push (cc3 c99_37) ?_
    refine p_ild (cc3 c99_39) rfl ?_
    refine p_bin (cc3 c99_40) ?_
    exact p_ri (cc3 c99_41) trivial h
theorem B99_61 {ev : xV} {Q : Option Value → xM → Prop} {sz sl : Nat} {K L : Nat → Nat} {κ : Nat → Nat → Int32} {ρ : Nat → Nat → Nat} {x1 s1 : Int32} {a0 b0 b2 : Nat} (h : (K b2 = 26) ∧ (vp_in s1 (L b2)) ∧ (K b0 = 10) ∧ (¬ b0 = 0) ∧ (K a0 = 12) ∧ Q (some (.int (((U κ a0 13 ((κ a0 13) + 1)) a0 13) - 1))) (Mm sz sl K L (U κ a0 13 ((κ a0 13) + 1)) (UR ρ b2 s1.toNatClampNeg b0))) : wpE (xT 99) ev Q (61, [(1, .int x1), (0, .ref a0)], [.ref b0, .int s1, .ref b2], Mm sz sl K L κ ρ) := by
  obtain ⟨g1, h⟩ := h
  obtain ⟨g2, h⟩ := h
  obtain ⟨g3, h⟩ := h
  obtain ⟨g4, h⟩ := h
  refine p_astp (cc3 c99_61) g1 g2 g3 g4 mm_xpp ?_
  refine p_ald (cc3 c99_62) rfl ?_
  refine p_dup (cc3 c99_63) rfl ?_
  obtain ⟨g5, h⟩ := h
  refine p_geti (cc3 c99_64) g5 rfl ?_
  refine p_push (cc3 c99_67) ?_
  refine p_bin (cc3 c99_68) ?_
  refine p_puti (cc3 c99_69) g5 mm_xpi ?_
  refine p_ald (cc3 c99_72) rfl ?_
  refine p_geti (cc3 c99_73) g5 rfl ?_
  refine p_push (cc3 c99_76) ?_
  refine p_bin (cc3 c99_77) ?_
  exact p_ri (cc3 c99_78) trivial h
theorem B100_0 {ev : xV} {Q : Option Value → xM → Prop} {sz sl : Nat} {K L : Nat → Nat} {κ : Nat → Nat → Int32} {ρ : Nat → Nat → Nat} {x1 : Int32} {a0 : Nat} (h : ((x1 < 0) → Q (some (.int ((-2)))) (Mm sz sl K L κ ρ)) ∧ (¬ (x1 < 0) → (K a0 = 12) ∧ ((x1 < (κ a0 13)) → Q (some (.int (κ a0 14))) (Mm sz sl K L (U κ a0 14 x1) ρ)) ∧ (¬ (x1 < (κ a0 13)) → Q (some (.int ((-2)))) (Mm sz sl K L κ ρ)))) : wpE (xT 100) ev Q (0, [(0, .ref a0), (1, .int x1)], [], Mm sz sl K L κ ρ) := by
  refine p_ild (cc3 c100_0) rfl ?_
  refine p_if (cc3 c100_1) (fun c => ?_) (fun c => ?_)
  · have h := h.1 c
    refine p_lc (ls' := []) c100_12 rfl rfl ?_
    refine p_push (cct c100_12 rfl) ?_
    exact p_ri (cc3 c100_14) trivial h
  · have h := h.2 c
    refine p_ild (cc3 c100_4) rfl ?_
    refine p_ald (cc3 c100_5) rfl ?_
    obtain ⟨g1, h⟩ := h
    refine p_geti (cc3 c100_6) g1 rfl ?_
    refine p_icmp (cc3 c100_9) (fun c => ?_) (fun c => ?_)
    · have h := h.1 c
      refine p_ald (cc3 c100_15) rfl ?_
      refine p_geti (cc3 c100_16) g1 rfl ?_
      refine p_ist (ls' := [(2, .int (κ a0 14)), (0, .ref a0), (1, .int x1)]) (cc3 c100_19) (by decide) rfl ?_
      refine p_ald (cc3 c100_20) rfl ?_
      refine p_ild (cc3 c100_21) rfl ?_
      refine p_puti (cc3 c100_22) g1 mm_xpi ?_
      refine p_ild (cc3 c100_25) rfl ?_
      exact p_ri (cc3 c100_26) trivial h
    · have h := h.2 c
      refine p_lc (ls' := []) c100_12 rfl rfl ?_
      refine p_push (cct c100_12 rfl) ?_
      exact p_ri (cc3 c100_14) trivial h
theorem B101_0 {ev : xV} {Q : Option Value → xM → Prop} {sz sl : Nat} {K L : Nat → Nat} {κ : Nat → Nat → Int32} {ρ : Nat → Nat → Nat} {x1 x2 : Int32} {a0 : Nat} (h : ((K a0 = 12) ∧ ∃ v : Value, ∃ κ' ρ', ev 66 [.ref a0, .int x1] (Mm sz sl K L κ ρ) (some (v)) (Mm sz sl K L κ' ρ') ∧ wpE (xT 101) ev Q (5, [(0, .ref a0), (1, .int x1), (2, .int x2)], [v], Mm sz sl K L κ' ρ'))) : wpE (xT 101) ev Q (0, [(0, .ref a0), (1, .int x1), (2, .int x2)], [], Mm sz sl K L κ ρ) := by
  refine p_ald (cc3 c101_0) rfl ?_
  refine p_ild (cc3 c101_1) rfl ?_
  obtain ⟨g1, h⟩ := h
  obtain ⟨v, κ', ρ', he, h⟩ := h
  exact p_callV (cc3 c101_2) (Nat.le_of_ble_eq_true rfl) rfl rfl (Nat.le_of_ble_eq_true rfl) g1 he h
theorem B101_5 {ev : xV} {Q : Option Value → xM → Prop} {sz sl : Nat} {K L : Nat → Nat} {κ : Nat → Nat → Int32} {ρ : Nat → Nat → Nat} {x1 x2 : Int32} {a0 b0 : Nat} (h : (K b0 = 3) ∧ ((ρ b0 11 = 0) → Q (some (.long ((-4611686018427387904)))) (Mm sz sl K L κ ρ)) ∧ (¬ (ρ b0 11 = 0) → ((x2 < 0) → Q (some (.long ((-4611686018427387904)))) (Mm sz sl K L κ ρ)) ∧ (¬ (x2 < 0) → ((x2 ≤ 1) → (K a0 = 12) ∧ (((κ a0 14) < 0) → wpE (xT 101) ev Q (61, [(2, .int x2), (3, .ref b0)], [.null], Mm sz sl K L κ ρ)) ∧ (¬ ((κ a0 14) < 0) → (((κ a0 13) ≤ (κ a0 14)) → wpE (xT 101) ev Q (61, [(2, .int x2), (3, .ref b0)], [.null], Mm sz sl K L κ ρ)) ∧ (¬ ((κ a0 13) ≤ (κ a0 14)) → (¬ ρ a0 8 = 0) ∧ (K (ρ a0 8) = 26) ∧ (vp_in (κ a0 14) (L (ρ a0 8))) ∧ (¬ ρ (ρ a0 8) (κ a0 14).toNatClampNeg = 0) ∧ wpE (xT 101) ev Q (61, [(2, .int x2), (3, .ref b0)], [.ref (ρ (ρ a0 8) (κ a0 14).toNatClampNeg)], Mm sz sl K L κ ρ)))) ∧ (¬ (x2 ≤ 1) → Q (some (.long ((-4611686018427387904)))) (Mm sz sl K L κ ρ))))) : wpE (xT 101) ev Q (5, [(0, .ref a0), (1, .int x1), (2, .int x2)], [.ref b0], Mm sz sl K L κ ρ) := by
  refine p_ast (ls' := [(3, .ref b0), (0, .ref a0), (1, .int x1), (2, .int x2)]) (cc3 c101_5) (by decide) rfl ?_
  refine p_ald (cc3 c101_6) rfl ?_
  refine p_ifnR (cc3 c101_7) ?_
  refine p_ald (cc3 c101_10) rfl ?_
  obtain ⟨g1, h⟩ := h
  by_cases cz1 : ρ b0 11 = 0
  · have h := h.1 cz1
    refine p_getzN (cc3 c101_11) g1 cz1 ?_
    refine p_ifnN (cc3 c101_14) ?_
    refine p_lc (ls' := []) c101_26 rfl rfl ?_
    refine p_push (cct c101_26 rfl) ?_
    exact p_rl (cc3 c101_29) h
  · have h := h.2 cz1
    refine p_getz (cc3 c101_11) g1 rfl cz1 ?_
    refine p_ifnR (cc3 c101_14) ?_
    refine p_ild (cc3 c101_17) rfl ?_
    refine p_if (cc3 c101_18) (fun c => ?_) (fun c => ?_)
    · have h := h.1 c
      refine p_lc (ls' := []) c101_26 rfl rfl ?_
      refine p_push (cct c101_26 rfl) ?_
      exact p_rl (cc3 c101_29) h
    · have h := h.2 c
      refine p_ild (cc3 c101_21) rfl ?_
      refine p_push (cc3 c101_22) ?_
      refine p_icmp (cc3 c101_23) (fun c => ?_) (fun c => ?_)
      · have h := h.1 c
        refine p_ald (cc3 c101_30) rfl ?_
        obtain ⟨g3, h⟩ := h
        refine p_geti (cc3 c101_31) g3 rfl ?_
        refine p_if (cc3 c101_34) (fun c => ?_) (fun c => ?_)
        · have h := h.1 c
          refine p_lc (ls' := [(2, .int x2), (3, .ref b0)]) c101_60 rfl rfl ?_
          refine p_push (cct c101_60 rfl) ?_
          exact h
        · have h := h.2 c
          refine p_ald (cc3 c101_37) rfl ?_
          refine p_geti (cc3 c101_38) g3 rfl ?_
          refine p_ald (cc3 c101_41) rfl ?_
          refine p_geti (cc3 c101_42) g3 rfl ?_
          refine p_icmp (cc3 c101_45) (fun c => ?_) (fun c => ?_)
          · have h := h.1 c
            refine p_lc (ls' := [(2, .int x2), (3, .ref b0)]) c101_60 rfl rfl ?_
            refine p_push (cct c101_60 rfl) ?_
            exact h
          · have h := h.2 c
            refine p_ald (cc3 c101_48) rfl ?_
            obtain ⟨g4, h⟩ := h
            refine p_getp (cc3 c101_49) g3 rfl g4 ?_
            refine p_ald (cc3 c101_52) rfl ?_
            refine p_geti (cc3 c101_53) g3 rfl ?_
            obtain ⟨g5, h⟩ := h
            obtain ⟨g6, h⟩ := h
            obtain ⟨g7, h⟩ := h
            refine p_aldp (cc3 c101_56) g5 g6 rfl g7 ?_
            refine p_goto (cc3 c101_57) ?_
            exact p_lc (ls' := [(2, .int x2), (3, .ref b0)]) c101_61 rfl rfl h
      · have h := h.2 c
        refine p_lc (ls' := []) c101_26 rfl rfl ?_
        refine p_push (cct c101_26 rfl) ?_
        exact p_rl (cc3 c101_29) h
theorem B101_5n {ev : xV} {Q : Option Value → xM → Prop} {sz sl : Nat} {K L : Nat → Nat} {κ : Nat → Nat → Int32} {ρ : Nat → Nat → Nat} {x1 x2 : Int32} {a0 : Nat} (h : Q (some (.long ((-4611686018427387904)))) (Mm sz sl K L κ ρ)) : wpE (xT 101) ev Q (5, [(0, .ref a0), (1, .int x1), (2, .int x2)], [.null], Mm sz sl K L κ ρ) := by
  refine p_astN (ls' := [(3, .null), (0, .ref a0), (1, .int x1), (2, .int x2)]) (cc3 c101_5) (by decide) rfl ?_
  refine p_aldN (cc3 c101_6) rfl ?_
  refine p_ifnN (cc3 c101_7) ?_
  refine p_lc (ls' := []) c101_26 rfl rfl ?_
  refine p_push (cct c101_26 rfl) ?_
  exact p_rl (cc3 c101_29) h
theorem B101_61 {ev : xV} {Q : Option Value → xM → Prop} {sz sl : Nat} {K L : Nat → Nat} {κ : Nat → Nat → Int32} {ρ : Nat → Nat → Nat} {x2 : Int32} {a3 b0 : Nat} (h : ((K b0 = 10) ∧ ∃ r κ' ρ', ev 102 [.ref b0, .int x2, .ref a3] (Mm sz sl K L κ ρ) (some (.int r)) (Mm sz sl K L κ' ρ') ∧ wpE (xT 101) ev Q (81, [(4, .ref b0), (2, .int x2), (3, .ref a3)], [.int r], Mm sz sl K L κ' ρ'))) : wpE (xT 101) ev Q (61, [(2, .int x2), (3, .ref a3)], [.ref b0], Mm sz sl K L κ ρ) := by
  refine p_ast (ls' := [(4, .ref b0), (2, .int x2), (3, .ref a3)]) (cct c101_61 rfl) (by decide) rfl ?_
  refine p_ald (cc3 c101_63) rfl ?_
  refine p_ifnR (cc3 c101_65) ?_
  refine p_ald (cc3 c101_74) rfl ?_
  refine p_ild (cc3 c101_76) rfl ?_
  refine p_ald (cc3 c101_77) rfl ?_
  obtain ⟨g1, h⟩ := h
  obtain ⟨r, κ', ρ', he, h⟩ := h
  exact p_callV (cc3 c101_78) (Nat.le_of_ble_eq_true rfl) rfl rfl (Nat.le_of_ble_eq_true rfl) g1 he h
theorem B101_61n {ev : xV} {Q : Option Value → xM → Prop} {sz sl : Nat} {K L : Nat → Nat} {κ : Nat → Nat → Int32} {ρ : Nat → Nat → Nat} {x2 : Int32} {a3 : Nat} (h : Q (some (.long ((-4611686018427387904)))) (Mm sz sl K L κ ρ)) : wpE (xT 101) ev Q (61, [(2, .int x2), (3, .ref a3)], [.null], Mm sz sl K L κ ρ) := by
  refine p_astN (ls' := [(4, .null), (2, .int x2), (3, .ref a3)]) (cct c101_61 rfl) (by decide) rfl ?_
  refine p_aldN (cc3 c101_63) rfl ?_
  refine p_ifnN (cc3 c101_65) ?_
  refine p_push (cc3 c101_68) ?_
  refine p_goto (cc3 c101_71) ?_
  refine p_lc (ls' := []) c101_82 rfl rfl ?_
  exact p_rl (cct c101_82 rfl) h
theorem B101_81 {ev : xV} {Q : Option Value → xM → Prop} {sz sl : Nat} {K L : Nat → Nat} {κ : Nat → Nat → Int32} {ρ : Nat → Nat → Nat} {x2 s0 : Int32} {a4 a3 : Nat} (h : Q (some (.long s0.toInt64)) (Mm sz sl K L κ ρ)) : wpE (xT 101) ev Q (81, [(4, .ref a4), (2, .int x2), (3, .ref a3)], [.int s0], Mm sz sl K L κ ρ) := by
  refine p_i2l (cc3 c101_81) ?_
  refine p_lc (ls' := []) c101_82 rfl rfl ?_
  exact p_rl (cct c101_82 rfl) h
theorem B102_0 {ev : xV} {Q : Option Value → xM → Prop} {sz sl : Nat} {K L : Nat → Nat} {κ : Nat → Nat → Int32} {ρ : Nat → Nat → Nat} {x1 : Int32} {a0 a2 : Nat} (h : ((x1 = 0) → (K a0 = 10) ∧ wpE (xT 102) ev Q (16, [(0, .ref a0), (1, .int x1), (2, .ref a2)], [.int (κ a0 2)], Mm sz sl K L κ ρ)) ∧ (¬ (x1 = 0) → (K a0 = 10) ∧ (¬ ρ a0 0 = 0) ∧ (K (ρ a0 0) = 20) ∧ wpE (xT 102) ev Q (16, [(0, .ref a0), (1, .int x1), (2, .ref a2)], [.int (Int32.ofNat (L (ρ a0 0)))], Mm sz sl K L κ ρ))) : wpE (xT 102) ev Q (0, [(0, .ref a0), (1, .int x1), (2, .ref a2)], [], Mm sz sl K L κ ρ) := by
  refine p_ild (cc3 c102_0) rfl ?_
  refine p_if (cc3 c102_1) (fun c => ?_) (fun c => ?_)
  · have h := h.1 c
    refine p_ald (cc3 c102_4) rfl ?_
    obtain ⟨g1, h⟩ := h
    refine p_geti (cc3 c102_5) g1 rfl ?_
    refine p_goto (cc3 c102_8) ?_
    exact h
  · have h := h.2 c
    refine p_ald (cc3 c102_11) rfl ?_
    obtain ⟨g1, h⟩ := h
    obtain ⟨g2, h⟩ := h
    refine p_getp (cc3 c102_12) g1 rfl g2 ?_
    obtain ⟨g3, h⟩ := h
    refine p_len (cc3 c102_15) g3 rfl ?_
    exact h
theorem B102_16 {ev : xV} {Q : Option Value → xM → Prop} {sz sl : Nat} {K L : Nat → Nat} {κ : Nat → Nat → Int32} {ρ : Nat → Nat → Nat} {x1 s0 : Int32} {a0 a2 : Nat} (h : (K a0 = 10) ∧ ((x1 = 0) → wpE (xT 102) ev Q (36, [(0, .ref a0), (2, .ref a2), (3, .int s0), (4, .int 0)], [], Mm sz sl K L (U κ a0 3 0) ρ)) ∧ (¬ (x1 = 0) → wpE (xT 102) ev Q (36, [(0, .ref a0), (2, .ref a2), (3, .int s0), (4, .int ((U κ a0 3 0) a0 2))], [], Mm sz sl K L (U κ a0 3 0) ρ))) : wpE (xT 102) ev Q (16, [(0, .ref a0), (1, .int x1), (2, .ref a2)], [.int s0], Mm sz sl K L κ ρ) := by
  refine p_ist (ls' := [(3, .int s0), (0, .ref a0), (1, .int x1), (2, .ref a2)]) (cct c102_16 rfl) (by decide) rfl ?_
  refine p_ald (cc3 c102_17) rfl ?_
  refine p_push (cc3 c102_18) ?_
  obtain ⟨g1, h⟩ := h
  refine p_puti (cc3 c102_19) g1 mm_xpi ?_
  refine p_ild (cc3 c102_22) rfl ?_
  refine p_if (cc3 c102_23) (fun c => ?_) (fun c => ?_)
  · have h := h.1 c
    refine p_push (cc3 c102_26) ?_
    refine p_goto (cc3 c102_27) ?_
    refine p_lc (ls' := [(0, .ref a0), (2, .ref a2), (3, .int s0)]) c102_34 rfl rfl ?_
    refine p_ist (ls' := [(4, .int 0), (0, .ref a0), (2, .ref a2), (3, .int s0)]) (cct c102_34 rfl) (by decide) rfl ?_
    exact p_lc (ls' := [(0, .ref a0), (2, .ref a2), (3, .int s0), (4, .int 0)]) c102_36 rfl rfl h
  · have h := h.2 c
    refine p_ald (cc3 c102_30) rfl ?_
    refine p_geti (cc3 c102_31) g1 rfl ?_
    refine p_lc (ls' := [(0, .ref a0), (2, .ref a2), (3, .int s0)]) c102_34 rfl rfl ?_
    refine p_ist (ls' := [(4, .int ((U κ a0 3 0) a0 2)), (0, .ref a0), (2, .ref a2), (3, .int s0)]) (cct c102_34 rfl) (by decide) rfl ?_
    exact p_lc (ls' := [(0, .ref a0), (2, .ref a2), (3, .int s0), (4, .int ((U κ a0 3 0) a0 2))]) c102_36 rfl rfl h
theorem B102_36 {ev : xV} {Q : Option Value → xM → Prop} {sz sl : Nat} {K L : Nat → Nat} {κ : Nat → Nat → Int32} {ρ : Nat → Nat → Nat} {x3 x4 : Int32} {a0 a2 : Nat} (h : ((x3 ≤ x4) → ((K a0 = 10) ∧ ∃ r κ' ρ', ev 105 [.ref a0] (Mm sz sl K L κ ρ) (some (.int r)) (Mm sz sl K L κ' ρ') ∧ wpE (xT 102) ev Q (183, [(0, .ref a0)], [.int r], Mm sz sl K L κ' ρ'))) ∧ (¬ (x3 ≤ x4) → (K a0 = 10) ∧ (¬ ρ a0 0 = 0) ∧ (K (ρ a0 0) = 20) ∧ (((Int32.ofNat (L (ρ a0 0))) ≤ x4) → (∃ r κ' ρ', ev 105 [.ref a0] (Mm sz sl K L κ ρ) (some (.int r)) (Mm sz sl K L κ' ρ') ∧ wpE (xT 102) ev Q (183, [(0, .ref a0)], [.int r], Mm sz sl K L κ' ρ'))) ∧ (¬ ((Int32.ofNat (L (ρ a0 0))) ≤ x4) → (vp_in x4 (L (ρ a0 0))) ∧ (((κ (ρ a0 0) x4.toNatClampNeg) < 10000) → (((κ (ρ a0 0) x4.toNatClampNeg) < 0) → (((κ (ρ a0 0) x4.toNatClampNeg) = (-204)) → (∃ r κ' ρ', ev 105 [.ref a0] (Mm sz sl K L κ ρ) (some (.int r)) (Mm sz sl K L κ' ρ') ∧ wpE (xT 102) ev Q (113, [(5, .int (κ (ρ a0 0) x4.toNatClampNeg)), (0, .ref a0), (2, .ref a2), (3, .int x3), (4, .int x4)], [.int r, .ref a0], Mm sz sl K L κ' ρ'))) ∧ (¬ ((κ (ρ a0 0) x4.toNatClampNeg) = (-204)) → (((κ (ρ a0 0) x4.toNatClampNeg) = (-300)) → (∃ r κ' ρ', ev 105 [.ref a0] (Mm sz sl K L κ ρ) (some (.int r)) (Mm sz sl K L κ' ρ') ∧ wpE (xT 102) ev Q (140, [(5, .int (κ (ρ a0 0) x4.toNatClampNeg)), (0, .ref a0), (2, .ref a2), (3, .int x3), (4, .int x4)], [.int r, .ref a0], Mm sz sl K L κ' ρ'))) ∧ (¬ ((κ (ρ a0 0) x4.toNatClampNeg) = (-300)) → (∃ r κ' ρ', ev 105 [.ref a0] (Mm sz sl K L κ ρ) (some (.int r)) (Mm sz sl K L κ' ρ') ∧ wpE (xT 102) ev Q (151, [(5, .int (κ (ρ a0 0) x4.toNatClampNeg)), (0, .ref a0), (2, .ref a2), (3, .int x3), (4, .int x4)], [.int r], Mm sz sl K L κ' ρ'))))) ∧ (¬ ((κ (ρ a0 0) x4.toNatClampNeg) < 0) → (∃ κ' ρ', ev 104 [.ref a0, .int (κ (ρ a0 0) x4.toNatClampNeg)] (Mm sz sl K L κ ρ) none (Mm sz sl K L κ' ρ') ∧ wpE (xT 102) ev Q (97, [(5, .int (κ (ρ a0 0) x4.toNatClampNeg)), (0, .ref a0), (2, .ref a2), (3, .int x3), (4, .int x4)], [], Mm sz sl K L κ' ρ')))) ∧ (¬ ((κ (ρ a0 0) x4.toNatClampNeg) < 10000) → (∃ r κ' ρ', ev 103 [.int ((κ (ρ a0 0) x4.toNatClampNeg) - 10000), .ref a2] (Mm sz sl K L κ ρ) (some (.int r)) (Mm sz sl K L κ' ρ') ∧ wpE (xT 102) ev Q (80, [(5, .int (κ (ρ a0 0) x4.toNatClampNeg)), (0, .ref a0), (2, .ref a2), (3, .int x3), (4, .int x4)], [.int r, .ref a0], Mm sz sl K L κ' ρ')))))) : wpE (xT 102) ev Q (36, [(0, .ref a0), (2, .ref a2), (3, .int x3), (4, .int x4)], [], Mm sz sl K L κ ρ) := by
  refine p_ild (cct c102_36 rfl) rfl ?_
  refine p_ild (cc3 c102_38) rfl ?_
  refine p_icmp (cc3 c102_39) (fun c => ?_) (fun c => ?_)
  · have h := h.1 c
    refine p_lc (ls' := [(0, .ref a0)]) c102_179 rfl rfl ?_
    refine p_ald (cct c102_179 rfl) rfl ?_
    obtain ⟨g1, h⟩ := h
    obtain ⟨r, κ', ρ', he, h⟩ := h
    exact p_callV (cc3 c102_180) (Nat.le_of_ble_eq_true rfl) rfl rfl (Nat.le_of_ble_eq_true rfl) g1 he h
  · have h := h.2 c
    refine p_ild (cc3 c102_42) rfl ?_
    refine p_ald (cc3 c102_44) rfl ?_
    obtain ⟨g1, h⟩ := h
    obtain ⟨g2, h⟩ := h
    refine p_getp (cc3 c102_45) g1 rfl g2 ?_
    obtain ⟨g3, h⟩ := h
    refine p_len (cc3 c102_48) g3 rfl ?_
    refine p_icmp (cc3 c102_49) (fun c => ?_) (fun c => ?_)
    · have h := h.1 c
      refine p_lc (ls' := [(0, .ref a0)]) c102_179 rfl rfl ?_
      refine p_ald (cct c102_179 rfl) rfl ?_
      obtain ⟨r, κ', ρ', he, h⟩ := h
      exact p_callV (cc3 c102_180) (Nat.le_of_ble_eq_true rfl) rfl rfl (Nat.le_of_ble_eq_true rfl) g1 he h
    · have h := h.2 c
      refine p_ald (cc3 c102_52) rfl ?_
      refine p_getp (cc3 c102_53) g1 rfl g2 ?_
      refine p_ild (cc3 c102_56) rfl ?_
      obtain ⟨g4, h⟩ := h
      refine p_aldi (cc3 c102_58) g3 g4 rfl ?_
      refine p_ist (ls' := [(5, .int (κ (ρ a0 0) x4.toNatClampNeg)), (0, .ref a0), (2, .ref a2), (3, .int x3), (4, .int x4)]) (cc3 c102_59) (by decide) rfl ?_
      refine p_ild (cc3 c102_61) rfl ?_
      refine p_push (cc3 c102_63) ?_
      refine p_icmp (cc3 c102_66) (fun c => ?_) (fun c => ?_)
      · have h := h.1 c
        refine p_ild (cc3 c102_86) rfl ?_
        refine p_if (cc3 c102_88) (fun c => ?_) (fun c => ?_)
        · have h := h.1 c
          refine p_ild (cc3 c102_100) rfl ?_
          refine p_push (cc3 c102_102) ?_
          refine p_icmp (cc3 c102_105) (fun c => ?_) (fun c => ?_)
          · have h := h.1 c
            refine p_ald (cc3 c102_108) rfl ?_
            refine p_ald (cc3 c102_109) rfl ?_
            obtain ⟨r, κ', ρ', he, h⟩ := h
            exact p_callV (cc3 c102_110) (Nat.le_of_ble_eq_true rfl) rfl rfl (Nat.le_of_ble_eq_true rfl) g1 he h
          · have h := h.2 c
            refine p_ild (cc3 c102_127) rfl ?_
            refine p_push (cc3 c102_129) ?_
            refine p_icmp (cc3 c102_132) (fun c => ?_) (fun c => ?_)
            · have h := h.1 c
              refine p_ald (cc3 c102_135) rfl ?_
              refine p_ald (cc3 c102_136) rfl ?_
              obtain ⟨r, κ', ρ', he, h⟩ := h
              exact p_callV (cc3 c102_137) (Nat.le_of_ble_eq_true rfl) rfl rfl (Nat.le_of_ble_eq_true rfl) g1 he h
            · have h := h.2 c
              refine p_ald (cc3 c102_147) rfl ?_
              obtain ⟨r, κ', ρ', he, h⟩ := h
              exact p_callV (cc3 c102_148) (Nat.le_of_ble_eq_true rfl) rfl rfl (Nat.le_of_ble_eq_true rfl) g1 he h
        · have h := h.2 c
          refine p_ald (cc3 c102_91) rfl ?_
          refine p_ild (cc3 c102_92) rfl ?_
          obtain ⟨κ', ρ', he, h⟩ := h
          exact p_callV (cc3 c102_94) (Nat.le_of_ble_eq_true rfl) rfl rfl (Nat.le_of_ble_eq_true rfl) g1 he h
      · have h := h.2 c
        refine p_ald (cc3 c102_69) rfl ?_
        refine p_ild (cc3 c102_70) rfl ?_
        refine p_push (cc3 c102_72) ?_
        refine p_bin (cc3 c102_75) ?_
        refine p_ald (cc3 c102_76) rfl ?_
        obtain ⟨r, κ', ρ', he, h⟩ := h
        exact p_callS (cc3 c102_77) (Nat.le_of_ble_eq_true rfl) rfl rfl (Nat.le_of_ble_eq_true rfl) he h
theorem B102_80 {ev : xV} {Q : Option Value → xM → Prop} {sz sl : Nat} {K L : Nat → Nat} {κ : Nat → Nat → Int32} {ρ : Nat → Nat → Nat} {x5 x3 x4 s0 : Int32} {a0 a2 b1 : Nat} (h : ((K b1 = 10) ∧ ∃ κ' ρ', ev 104 [.ref b1, .int s0] (Mm sz sl K L κ ρ) none (Mm sz sl K L κ' ρ') ∧ wpE (xT 102) ev Q (83, [(5, .int x5), (0, .ref a0), (2, .ref a2), (3, .int x3), (4, .int x4)], [], Mm sz sl K L κ' ρ'))) : wpE (xT 102) ev Q (80, [(5, .int x5), (0, .ref a0), (2, .ref a2), (3, .int x3), (4, .int x4)], [.int s0, .ref b1], Mm sz sl K L κ ρ) := by
  obtain ⟨g1, h⟩ := h
  obtain ⟨κ', ρ', he, h⟩ := h
  exact p_callV (cc3 c102_80) (Nat.le_of_ble_eq_true rfl) rfl rfl (Nat.le_of_ble_eq_true rfl) g1 he h
theorem B102_83 {ev : xV} {Q : Option Value → xM → Prop} {sz sl : Nat} {K L : Nat → Nat} {κ : Nat → Nat → Int32} {ρ : Nat → Nat → Nat} {x5 x3 x4 : Int32} {a0 a2 : Nat} (h : wpE (xT 102) ev Q (36, [(0, .ref a0), (2, .ref a2), (3, .int x3), (4, .int (x4 + 1))], [], Mm sz sl K L κ ρ)) : wpE (xT 102) ev Q (83, [(5, .int x5), (0, .ref a0), (2, .ref a2), (3, .int x3), (4, .int x4)], [], Mm sz sl K L κ ρ) := by
  refine p_goto (cc3 c102_83) ?_
  refine p_lc (ls' := [(0, .ref a0), (2, .ref a2), (3, .int x3), (4, .int x4)]) c102_173 rfl rfl ?_
  refine p_iinc (y := x4 + 1) (ls' := [(4, .int (x4 + 1)), (0, .ref a0), (2, .ref a2), (3, .int x3)]) (cct c102_173 rfl) (by decide) rfl rfl rfl ?_
  refine p_goto (cc3 c102_176) ?_
  exact p_lc (ls' := [(0, .ref a0), (2, .ref a2), (3, .int x3), (4, .int (x4 + 1))]) c102_36 rfl rfl h
theorem B102_97 {ev : xV} {Q : Option Value → xM → Prop} {sz sl : Nat} {K L : Nat → Nat} {κ : Nat → Nat → Int32} {ρ : Nat → Nat → Nat} {x5 x3 x4 : Int32} {a0 a2 : Nat} (h : wpE (xT 102) ev Q (36, [(0, .ref a0), (2, .ref a2), (3, .int x3), (4, .int (x4 + 1))], [], Mm sz sl K L κ ρ)) : wpE (xT 102) ev Q (97, [(5, .int x5), (0, .ref a0), (2, .ref a2), (3, .int x3), (4, .int x4)], [], Mm sz sl K L κ ρ) := by
  refine p_goto (cc3 c102_97) ?_
  refine p_lc (ls' := [(0, .ref a0), (2, .ref a2), (3, .int x3), (4, .int x4)]) c102_173 rfl rfl ?_
  refine p_iinc (y := x4 + 1) (ls' := [(4, .int (x4 + 1)), (0, .ref a0), (2, .ref a2), (3, .int x3)]) (cct c102_173 rfl) (by decide) rfl rfl rfl ?_
  refine p_goto (cc3 c102_176) ?_
  exact p_lc (ls' := [(0, .ref a0), (2, .ref a2), (3, .int x3), (4, .int (x4 + 1))]) c102_36 rfl rfl h
theorem B102_113 {ev : xV} {Q : Option Value → xM → Prop} {sz sl : Nat} {K L : Nat → Nat} {κ : Nat → Nat → Int32} {ρ : Nat → Nat → Nat} {x5 x3 x4 s0 : Int32} {a0 a2 b1 : Nat} (h : ((s0 = 0) → ((K b1 = 10) ∧ ∃ κ' ρ', ev 104 [.ref b1, .int 1] (Mm sz sl K L κ ρ) none (Mm sz sl K L κ' ρ') ∧ wpE (xT 102) ev Q (124, [(0, .ref a0), (2, .ref a2), (3, .int x3), (4, .int x4)], [], Mm sz sl K L κ' ρ'))) ∧ (¬ (s0 = 0) → ((K b1 = 10) ∧ ∃ κ' ρ', ev 104 [.ref b1, .int 0] (Mm sz sl K L κ ρ) none (Mm sz sl K L κ' ρ') ∧ wpE (xT 102) ev Q (124, [(0, .ref a0), (2, .ref a2), (3, .int x3), (4, .int x4)], [], Mm sz sl K L κ' ρ')))) : wpE (xT 102) ev Q (113, [(5, .int x5), (0, .ref a0), (2, .ref a2), (3, .int x3), (4, .int x4)], [.int s0, .ref b1], Mm sz sl K L κ ρ) := by
  refine p_if (cc3 c102_113) (fun c => ?_) (fun c => ?_)
  · have h := h.1 c
    refine p_push (cc3 c102_116) ?_
    refine p_goto (cc3 c102_117) ?_
    refine p_lc (ls' := [(0, .ref a0), (2, .ref a2), (3, .int x3), (4, .int x4)]) c102_121 rfl rfl ?_
    obtain ⟨g1, h⟩ := h
    obtain ⟨κ', ρ', he, h⟩ := h
    exact p_callV (cct c102_121 rfl) (Nat.le_of_ble_eq_true rfl) rfl rfl (Nat.le_of_ble_eq_true rfl) g1 he h
  · have h := h.2 c
    refine p_push (cc3 c102_120) ?_
    refine p_lc (ls' := [(0, .ref a0), (2, .ref a2), (3, .int x3), (4, .int x4)]) c102_121 rfl rfl ?_
    obtain ⟨g1, h⟩ := h
    obtain ⟨κ', ρ', he, h⟩ := h
    exact p_callV (cct c102_121 rfl) (Nat.le_of_ble_eq_true rfl) rfl rfl (Nat.le_of_ble_eq_true rfl) g1 he h
theorem B102_124 {ev : xV} {Q : Option Value → xM → Prop} {sz sl : Nat} {K L : Nat → Nat} {κ : Nat → Nat → Int32} {ρ : Nat → Nat → Nat} {x3 x4 : Int32} {a0 a2 : Nat} (h : wpE (xT 102) ev Q (36, [(0, .ref a0), (2, .ref a2), (3, .int x3), (4, .int (x4 + 1))], [], Mm sz sl K L κ ρ)) : wpE (xT 102) ev Q (124, [(0, .ref a0), (2, .ref a2), (3, .int x3), (4, .int x4)], [], Mm sz sl K L κ ρ) := by
  refine p_goto (cc3 c102_124) ?_
  refine p_iinc (y := x4 + 1) (ls' := [(4, .int (x4 + 1)), (0, .ref a0), (2, .ref a2), (3, .int x3)]) (cct c102_173 rfl) (by decide) rfl rfl rfl ?_
  refine p_goto (cc3 c102_176) ?_
  exact p_lc (ls' := [(0, .ref a0), (2, .ref a2), (3, .int x3), (4, .int (x4 + 1))]) c102_36 rfl rfl h
theorem B102_140 {ev : xV} {Q : Option Value → xM → Prop} {sz sl : Nat} {K L : Nat → Nat} {κ : Nat → Nat → Int32} {ρ : Nat → Nat → Nat} {x5 x3 x4 s0 : Int32} {a0 a2 b1 : Nat} (h : ((K b1 = 10) ∧ ∃ κ' ρ', ev 104 [.ref b1, .int (-s0)] (Mm sz sl K L κ ρ) none (Mm sz sl K L κ' ρ') ∧ wpE (xT 102) ev Q (144, [(5, .int x5), (0, .ref a0), (2, .ref a2), (3, .int x3), (4, .int x4)], [], Mm sz sl K L κ' ρ'))) : wpE (xT 102) ev Q (140, [(5, .int x5), (0, .ref a0), (2, .ref a2), (3, .int x3), (4, .int x4)], [.int s0, .ref b1], Mm sz sl K L κ ρ) := by
  refine p_un (cc3 c102_140) ?_
  obtain ⟨g1, h⟩ := h
  obtain ⟨κ', ρ', he, h⟩ := h
  exact p_callV (cc3 c102_141) (Nat.le_of_ble_eq_true rfl) rfl rfl (Nat.le_of_ble_eq_true rfl) g1 he h
theorem B102_144 {ev : xV} {Q : Option Value → xM → Prop} {sz sl : Nat} {K L : Nat → Nat} {κ : Nat → Nat → Int32} {ρ : Nat → Nat → Nat} {x5 x3 x4 : Int32} {a0 a2 : Nat} (h : wpE (xT 102) ev Q (36, [(0, .ref a0), (2, .ref a2), (3, .int x3), (4, .int (x4 + 1))], [], Mm sz sl K L κ ρ)) : wpE (xT 102) ev Q (144, [(5, .int x5), (0, .ref a0), (2, .ref a2), (3, .int x3), (4, .int x4)], [], Mm sz sl K L κ ρ) := by
  refine p_goto (cc3 c102_144) ?_
  refine p_lc (ls' := [(0, .ref a0), (2, .ref a2), (3, .int x3), (4, .int x4)]) c102_173 rfl rfl ?_
  refine p_iinc (y := x4 + 1) (ls' := [(4, .int (x4 + 1)), (0, .ref a0), (2, .ref a2), (3, .int x3)]) (cct c102_173 rfl) (by decide) rfl rfl rfl ?_
  refine p_goto (cc3 c102_176) ?_
  exact p_lc (ls' := [(0, .ref a0), (2, .ref a2), (3, .int x3), (4, .int (x4 + 1))]) c102_36 rfl rfl h
theorem B102_151 {ev : xV} {Q : Option Value → xM → Prop} {sz sl : Nat} {K L : Nat → Nat} {κ : Nat → Nat → Int32} {ρ : Nat → Nat → Nat} {x5 x3 x4 s0 : Int32} {a0 a2 : Nat} (h : ((K a0 = 10) ∧ ∃ r κ' ρ', ev 105 [.ref a0] (Mm sz sl K L κ ρ) (some (.int r)) (Mm sz sl K L κ' ρ') ∧ wpE (xT 102) ev Q (157, [(6, .int s0), (5, .int x5), (0, .ref a0), (2, .ref a2), (3, .int x3), (4, .int x4)], [.int r], Mm sz sl K L κ' ρ'))) : wpE (xT 102) ev Q (151, [(5, .int x5), (0, .ref a0), (2, .ref a2), (3, .int x3), (4, .int x4)], [.int s0], Mm sz sl K L κ ρ) := by
  refine p_ist (ls' := [(6, .int s0), (5, .int x5), (0, .ref a0), (2, .ref a2), (3, .int x3), (4, .int x4)]) (cc3 c102_151) (by decide) rfl ?_
  refine p_ald (cc3 c102_153) rfl ?_
  obtain ⟨g1, h⟩ := h
  obtain ⟨r, κ', ρ', he, h⟩ := h
  exact p_callV (cc3 c102_154) (Nat.le_of_ble_eq_true rfl) rfl rfl (Nat.le_of_ble_eq_true rfl) g1 he h
theorem B102_157 {ev : xV} {Q : Option Value → xM → Prop} {sz sl : Nat} {K L : Nat → Nat} {κ : Nat → Nat → Int32} {ρ : Nat → Nat → Nat} {x6 x5 x3 x4 s0 : Int32} {a0 a2 : Nat} (h : (∃ r κ' ρ', ev 106 [.int s0, .int (-x5), .int x6] (Mm sz sl K L κ ρ) (some (.int r)) (Mm sz sl K L κ' ρ') ∧ wpE (xT 102) ev Q (170, [(7, .int s0), (6, .int x6), (5, .int x5), (0, .ref a0), (2, .ref a2), (3, .int x3), (4, .int x4)], [.int r, .ref a0], Mm sz sl K L κ' ρ'))) : wpE (xT 102) ev Q (157, [(6, .int x6), (5, .int x5), (0, .ref a0), (2, .ref a2), (3, .int x3), (4, .int x4)], [.int s0], Mm sz sl K L κ ρ) := by
  refine p_ist (ls' := [(7, .int s0), (6, .int x6), (5, .int x5), (0, .ref a0), (2, .ref a2), (3, .int x3), (4, .int x4)]) (cc3 c102_157) (by decide) rfl ?_
  refine p_ald (cc3 c102_159) rfl ?_
  refine p_ild (cc3 c102_160) rfl ?_
  refine p_ild (cc3 c102_162) rfl ?_
  refine p_un (cc3 c102_164) ?_
  refine p_ild (cc3 c102_165) rfl ?_
  obtain ⟨r, κ', ρ', he, h⟩ := h
  exact p_callS (cc3 c102_167) (Nat.le_of_ble_eq_true rfl) rfl rfl (Nat.le_of_ble_eq_true rfl) he h
theorem B102_170 {ev : xV} {Q : Option Value → xM → Prop} {sz sl : Nat} {K L : Nat → Nat} {κ : Nat → Nat → Int32} {ρ : Nat → Nat → Nat} {x7 x6 x5 x3 x4 s0 : Int32} {a0 a2 b1 : Nat} (h : ((K b1 = 10) ∧ ∃ κ' ρ', ev 104 [.ref b1, .int s0] (Mm sz sl K L κ ρ) none (Mm sz sl K L κ' ρ') ∧ wpE (xT 102) ev Q (173, [(0, .ref a0), (2, .ref a2), (3, .int x3), (4, .int x4)], [], Mm sz sl K L κ' ρ'))) : wpE (xT 102) ev Q (170, [(7, .int x7), (6, .int x6), (5, .int x5), (0, .ref a0), (2, .ref a2), (3, .int x3), (4, .int x4)], [.int s0, .ref b1], Mm sz sl K L κ ρ) := by
  obtain ⟨g1, h⟩ := h
  obtain ⟨κ', ρ', he, h⟩ := h
  exact p_callV (cc3 c102_170) (Nat.le_of_ble_eq_true rfl) rfl rfl (Nat.le_of_ble_eq_true rfl) g1 he (p_lc (ls' := [(0, .ref a0), (2, .ref a2), (3, .int x3), (4, .int x4)]) c102_173 rfl rfl h)
theorem B102_173 {ev : xV} {Q : Option Value → xM → Prop} {sz sl : Nat} {K L : Nat → Nat} {κ : Nat → Nat → Int32} {ρ : Nat → Nat → Nat} {x3 x4 : Int32} {a0 a2 : Nat} (h : wpE (xT 102) ev Q (36, [(0, .ref a0), (2, .ref a2), (3, .int x3), (4, .int (x4 + 1))], [], Mm sz sl K L κ ρ)) : wpE (xT 102) ev Q (173, [(0, .ref a0), (2, .ref a2), (3, .int x3), (4, .int x4)], [], Mm sz sl K L κ ρ) := by
  refine p_iinc (y := x4 + 1) (ls' := [(4, .int (x4 + 1)), (0, .ref a0), (2, .ref a2), (3, .int x3)]) (cct c102_173 rfl) (by decide) rfl rfl rfl ?_
  refine p_goto (cc3 c102_176) ?_
  exact p_lc (ls' := [(0, .ref a0), (2, .ref a2), (3, .int x3), (4, .int (x4 + 1))]) c102_36 rfl rfl h
theorem B102_183 {ev : xV} {Q : Option Value → xM → Prop} {sz sl : Nat} {K L : Nat → Nat} {κ : Nat → Nat → Int32} {ρ : Nat → Nat → Nat} {s0 : Int32} {a0 : Nat} (h : Q (some (.int s0)) (Mm sz sl K L κ ρ)) : wpE (xT 102) ev Q (183, [(0, .ref a0)], [.int s0], Mm sz sl K L κ ρ) := by
  exact p_ri (cc3 c102_183) trivial h
theorem B103_0 {ev : xV} {Q : Option Value → xM → Prop} {sz sl : Nat} {K L : Nat → Nat} {κ : Nat → Nat → Int32} {ρ : Nat → Nat → Nat} {x0 : Int32} {a1 : Nat} (h : ((x0 = 0) → (K a1 = 3) ∧ (¬ ρ a1 10 = 0) ∧ (K (ρ a1 10) = 5) ∧ Q (some (.int (κ (ρ a1 10) 4))) (Mm sz sl K L κ ρ)) ∧ (¬ (x0 = 0) → ((x0 = 1) → (K a1 = 3) ∧ Q (some (.int (κ a1 4))) (Mm sz sl K L κ ρ)) ∧ (¬ (x0 = 1) → ((x0 = 2) → (K a1 = 3) ∧ Q (some (.int (κ a1 2))) (Mm sz sl K L κ ρ)) ∧ (¬ (x0 = 2) → ((x0 = 3) → (K a1 = 3) ∧ Q (some (.int (κ a1 3))) (Mm sz sl K L κ ρ)) ∧ (¬ (x0 = 3) → ((x0 = 4) → (K a1 = 3) ∧ Q (some (.int (κ a1 13))) (Mm sz sl K L κ ρ)) ∧ (¬ (x0 = 4) → (K a1 = 3) ∧ Q (some (.int (κ a1 0))) (Mm sz sl K L κ ρ))))))) : wpE (xT 103) ev Q (0, [(0, .int x0), (1, .ref a1)], [], Mm sz sl K L κ ρ) := by
  refine p_ild (cc3 c103_0) rfl ?_
  refine p_sw (cc3 c103_1) ?_
  refine ⟨fun c => ?_, fun c => ?_⟩
  · have h := h.1 c
    refine p_ald (cc3 c103_36) rfl ?_
    obtain ⟨g1, h⟩ := h
    obtain ⟨g2, h⟩ := h
    refine p_getp (cc3 c103_37) g1 rfl g2 ?_
    obtain ⟨g3, h⟩ := h
    refine p_geti (cc3 c103_40) g3 rfl ?_
    exact p_ri (cc3 c103_43) trivial h
  · have h := h.2 c
    refine ⟨fun c => ?_, fun c => ?_⟩
    · have h := h.1 c
      refine p_ald (cc3 c103_44) rfl ?_
      obtain ⟨g1, h⟩ := h
      refine p_geti (cc3 c103_45) g1 rfl ?_
      exact p_ri (cc3 c103_48) trivial h
    · have h := h.2 c
      refine ⟨fun c => ?_, fun c => ?_⟩
      · have h := h.1 c
        refine p_ald (cc3 c103_49) rfl ?_
        obtain ⟨g1, h⟩ := h
        refine p_geti (cc3 c103_50) g1 rfl ?_
        exact p_ri (cc3 c103_53) trivial h
      · have h := h.2 c
        refine ⟨fun c => ?_, fun c => ?_⟩
        · have h := h.1 c
          refine p_ald (cc3 c103_54) rfl ?_
          obtain ⟨g1, h⟩ := h
          refine p_geti (cc3 c103_55) g1 rfl ?_
          exact p_ri (cc3 c103_58) trivial h
        · have h := h.2 c
          refine ⟨fun c => ?_, fun c => ?_⟩
          · have h := h.1 c
            refine p_ald (cc3 c103_59) rfl ?_
            obtain ⟨g1, h⟩ := h
            refine p_geti (cc3 c103_60) g1 rfl ?_
            exact p_ri (cc3 c103_63) trivial h
          · have h := h.2 c
            refine p_ald (cc3 c103_64) rfl ?_
            obtain ⟨g1, h⟩ := h
            refine p_geti (cc3 c103_65) g1 rfl ?_
            exact p_ri (cc3 c103_68) trivial h
theorem B104_0 {ev : xV} {Q : Option Value → xM → Prop} {sz sl : Nat} {K L : Nat → Nat} {κ : Nat → Nat → Int32} {ρ : Nat → Nat → Nat} {x1 : Int32} {a0 : Nat} (h : (K a0 = 10) ∧ (¬ ρ a0 1 = 0) ∧ (K (ρ a0 1) = 20) ∧ (((Int32.ofNat (L (ρ a0 1))) ≤ (κ a0 3)) → Q none (Mm sz sl K L κ ρ)) ∧ (¬ ((Int32.ofNat (L (ρ a0 1))) ≤ (κ a0 3)) → (vp_in (κ a0 3) (L (ρ a0 1))) ∧ Q none (Mm sz sl K L (U (U κ (ρ a0 1) (κ a0 3).toNatClampNeg x1) a0 3 (((U κ (ρ a0 1) (κ a0 3).toNatClampNeg x1) a0 3) + 1)) ρ))) : wpE (xT 104) ev Q (0, [(0, .ref a0), (1, .int x1)], [], Mm sz sl K L κ ρ) := by
  refine p_ald (cc3 c104_0) rfl ?_
  obtain ⟨g1, h⟩ := h
  refine p_geti (cc3 c104_1) g1 rfl ?_
  refine p_ald (cc3 c104_4) rfl ?_
  obtain ⟨g2, h⟩ := h
  refine p_getp (cc3 c104_5) g1 rfl g2 ?_
  obtain ⟨g3, h⟩ := h
  refine p_len (cc3 c104_8) g3 rfl ?_
  refine p_icmp (cc3 c104_9) (fun c => ?_) (fun c => ?_)
  · have h := h.1 c
    refine p_lc (ls' := []) c104_32 rfl rfl ?_
    exact p_rv (cct c104_32 rfl) h
  · have h := h.2 c
    refine p_ald (cc3 c104_12) rfl ?_
    refine p_getp (cc3 c104_13) g1 rfl g2 ?_
    refine p_ald (cc3 c104_16) rfl ?_
    refine p_geti (cc3 c104_17) g1 rfl ?_
    refine p_ild (cc3 c104_20) rfl ?_
    obtain ⟨g4, h⟩ := h
    refine p_asti (cc3 c104_21) g3 g4 mm_xpi ?_
    refine p_ald (cc3 c104_22) rfl ?_
    refine p_dup (cc3 c104_23) rfl ?_
    refine p_geti (cc3 c104_24) g1 rfl ?_
    refine p_push (cc3 c104_27) ?_
    refine p_bin (cc3 c104_28) ?_
    refine p_puti (cc3 c104_29) g1 mm_xpi ?_
    refine p_lc (ls' := []) c104_32 rfl rfl ?_
    exact p_rv (cct c104_32 rfl) h
theorem B105_0 {ev : xV} {Q : Option Value → xM → Prop} {sz sl : Nat} {K L : Nat → Nat} {κ : Nat → Nat → Int32} {ρ : Nat → Nat → Nat} {a0 : Nat} (h : (K a0 = 10) ∧ ((1 ≤ (κ a0 3)) → (¬ ρ a0 1 = 0) ∧ (K (ρ a0 1) = 20) ∧ (vp_in ((U κ a0 3 ((κ a0 3) - 1)) a0 3) (L (ρ a0 1))) ∧ Q (some (.int ((U κ a0 3 ((κ a0 3) - 1)) (ρ a0 1) ((U κ a0 3 ((κ a0 3) - 1)) a0 3).toNatClampNeg))) (Mm sz sl K L (U κ a0 3 ((κ a0 3) - 1)) ρ)) ∧ (¬ (1 ≤ (κ a0 3)) → Q (some (.int 0)) (Mm sz sl K L κ ρ))) : wpE (xT 105) ev Q (0, [(0, .ref a0)], [], Mm sz sl K L κ ρ) := by
  refine p_ald (cc3 c105_0) rfl ?_
  obtain ⟨g1, h⟩ := h
  refine p_geti (cc3 c105_1) g1 rfl ?_
  refine p_push (cc3 c105_4) ?_
  refine p_icmp (cc3 c105_5) (fun c => ?_) (fun c => ?_)
  · have h := h.1 c
    refine p_ald (cc3 c105_10) rfl ?_
    refine p_dup (cc3 c105_11) rfl ?_
    refine p_geti (cc3 c105_12) g1 rfl ?_
    refine p_push (cc3 c105_15) ?_
    refine p_bin (cc3 c105_16) ?_
    refine p_puti (cc3 c105_17) g1 mm_xpi ?_
    refine p_ald (cc3 c105_20) rfl ?_
    obtain ⟨g2, h⟩ := h
    refine p_getp (cc3 c105_21) g1 rfl g2 ?_
    refine p_ald (cc3 c105_24) rfl ?_
    refine p_geti (cc3 c105_25) g1 rfl ?_
    obtain ⟨g3, h⟩ := h
    obtain ⟨g4, h⟩ := h
    refine p_aldi (cc3 c105_28) g3 g4 rfl ?_
    exact p_ri (cc3 c105_29) trivial h
  · have h := h.2 c
    refine p_push (cc3 c105_8) ?_
    exact p_ri (cc3 c105_9) trivial h
theorem B106_0 {ev : xV} {Q : Option Value → xM → Prop} {sz sl : Nat} {K L : Nat → Nat} {κ : Nat → Nat → Int32} {ρ : Nat → Nat → Nat} {x0 x1 x2 : Int32} (h : ((x1 = 43) → Q (some (.int (x0 + x2))) (Mm sz sl K L κ ρ)) ∧ (¬ (x1 = 43) → ((x1 = 45) → Q (some (.int (x0 - x2))) (Mm sz sl K L κ ρ)) ∧ (¬ (x1 = 45) → ((x1 = 60) → ((x2 ≤ x0) → Q (some (.int 0)) (Mm sz sl K L κ ρ)) ∧ (¬ (x2 ≤ x0) → Q (some (.int 1)) (Mm sz sl K L κ ρ))) ∧ (¬ (x1 = 60) → ((x1 = 61) → ((x0 = x2) → Q (some (.int 1)) (Mm sz sl K L κ ρ)) ∧ (¬ (x0 = x2) → Q (some (.int 0)) (Mm sz sl K L κ ρ))) ∧ (¬ (x1 = 61) → ((x1 = 202) → ((x0 = 0) → ((x2 = 0) → Q (some (.int 0)) (Mm sz sl K L κ ρ)) ∧ (¬ (x2 = 0) → Q (some (.int 1)) (Mm sz sl K L κ ρ))) ∧ (¬ (x0 = 0) → Q (some (.int 1)) (Mm sz sl K L κ ρ))) ∧ (¬ (x1 = 202) → ((x1 = 203) → ((x0 = 0) → Q (some (.int 0)) (Mm sz sl K L κ ρ)) ∧ (¬ (x0 = 0) → ((x2 = 0) → Q (some (.int 0)) (Mm sz sl K L κ ρ)) ∧ (¬ (x2 = 0) → Q (some (.int 1)) (Mm sz sl K L κ ρ)))) ∧ (¬ (x1 = 203) → Q (some (.int (x0 * x2))) (Mm sz sl K L κ ρ)))))))) : wpE (xT 106) ev Q (0, [(0, .int x0), (1, .int x1), (2, .int x2)], [], Mm sz sl K L κ ρ) := by
  refine p_ild (cc3 c106_0) rfl ?_
  refine p_sw (cc3 c106_1) ?_
  refine ⟨fun c => ?_, fun c => ?_⟩
  · have h := h.1 c
    refine p_ild (cc3 c106_110) rfl ?_
    refine p_ild (cc3 c106_111) rfl ?_
    refine p_bin (cc3 c106_112) ?_
    exact p_ri (cc3 c106_113) trivial h
  · have h := h.2 c
    refine ⟨fun c => ?_, fun c => ?_⟩
    · have h := h.1 c
      refine p_ild (cc3 c106_114) rfl ?_
      refine p_ild (cc3 c106_115) rfl ?_
      refine p_bin (cc3 c106_116) ?_
      exact p_ri (cc3 c106_117) trivial h
    · have h := h.2 c
      refine ⟨fun c => ?_, fun c => ?_⟩
      · have h := h.1 c
        refine p_ild (cc3 c106_88) rfl ?_
        refine p_ild (cc3 c106_89) rfl ?_
        refine p_icmp (cc3 c106_90) (fun c => ?_) (fun c => ?_)
        · have h := h.1 c
          refine p_push (cc3 c106_97) ?_
          refine p_lc (ls' := []) c106_98 rfl rfl ?_
          exact p_ri (cct c106_98 rfl) trivial h
        · have h := h.2 c
          refine p_push (cc3 c106_93) ?_
          refine p_goto (cc3 c106_94) ?_
          refine p_lc (ls' := []) c106_98 rfl rfl ?_
          exact p_ri (cct c106_98 rfl) trivial h
      · have h := h.2 c
        refine ⟨fun c => ?_, fun c => ?_⟩
        · have h := h.1 c
          refine p_ild (cc3 c106_99) rfl ?_
          refine p_ild (cc3 c106_100) rfl ?_
          refine p_icmp (cc3 c106_101) (fun c => ?_) (fun c => ?_)
          · have h := h.1 c
            refine p_push (cc3 c106_104) ?_
            refine p_goto (cc3 c106_105) ?_
            refine p_lc (ls' := []) c106_109 rfl rfl ?_
            exact p_ri (cct c106_109 rfl) trivial h
          · have h := h.2 c
            refine p_push (cc3 c106_108) ?_
            refine p_lc (ls' := []) c106_109 rfl rfl ?_
            exact p_ri (cct c106_109 rfl) trivial h
        · have h := h.2 c
          refine ⟨fun c => ?_, fun c => ?_⟩
          · have h := h.1 c
            refine p_ild (cc3 c106_60) rfl ?_
            refine p_if (cc3 c106_61) (fun c => ?_) (fun c => ?_)
            · have h := h.1 c
              refine p_ild (cc3 c106_64) rfl ?_
              refine p_if (cc3 c106_65) (fun c => ?_) (fun c => ?_)
              · have h := h.1 c
                refine p_push (cc3 c106_72) ?_
                refine p_lc (ls' := []) c106_73 rfl rfl ?_
                exact p_ri (cct c106_73 rfl) trivial h
              · have h := h.2 c
                refine p_lc (ls' := []) c106_68 rfl rfl ?_
                refine p_push (cct c106_68 rfl) ?_
                refine p_goto (cc3 c106_69) ?_
                exact p_ri (cct c106_73 rfl) trivial h
            · have h := h.2 c
              refine p_lc (ls' := []) c106_68 rfl rfl ?_
              refine p_push (cct c106_68 rfl) ?_
              refine p_goto (cc3 c106_69) ?_
              exact p_ri (cct c106_73 rfl) trivial h
          · have h := h.2 c
            refine ⟨fun c => ?_, fun c => ?_⟩
            · have h := h.1 c
              refine p_ild (cc3 c106_74) rfl ?_
              refine p_if (cc3 c106_75) (fun c => ?_) (fun c => ?_)
              · have h := h.1 c
                refine p_lc (ls' := []) c106_86 rfl rfl ?_
                refine p_push (cct c106_86 rfl) ?_
                exact p_ri (cct c106_87 rfl) trivial h
              · have h := h.2 c
                refine p_ild (cc3 c106_78) rfl ?_
                refine p_if (cc3 c106_79) (fun c => ?_) (fun c => ?_)
                · have h := h.1 c
                  refine p_lc (ls' := []) c106_86 rfl rfl ?_
                  refine p_push (cct c106_86 rfl) ?_
                  exact p_ri (cct c106_87 rfl) trivial h
                · have h := h.2 c
                  refine p_push (cc3 c106_82) ?_
                  refine p_goto (cc3 c106_83) ?_
                  refine p_lc (ls' := []) c106_87 rfl rfl ?_
                  exact p_ri (cct c106_87 rfl) trivial h
            · have h := h.2 c
              refine p_ild (cc3 c106_118) rfl ?_
              refine p_ild (cc3 c106_119) rfl ?_
              refine p_bin (cc3 c106_120) ?_
              exact p_ri (cc3 c106_121) trivial h
theorem B107_0 {ev : xV} {Q : Option Value → xM → Prop} {sz sl : Nat} {K L : Nat → Nat} {κ : Nat → Nat → Int32} {ρ : Nat → Nat → Nat} {x1 : Int32} {a0 : Nat} (h : ((K a0 = 12) ∧ ∃ v : Value, ∃ κ' ρ', ev 66 [.ref a0, .int x1] (Mm sz sl K L κ ρ) (some (v)) (Mm sz sl K L κ' ρ') ∧ wpE (xT 107) ev Q (5, [(0, .ref a0), (1, .int x1)], [v], Mm sz sl K L κ' ρ'))) : wpE (xT 107) ev Q (0, [(0, .ref a0), (1, .int x1)], [], Mm sz sl K L κ ρ) := by
  refine p_ald (cc3 c107_0) rfl ?_
  refine p_ild (cc3 c107_1) rfl ?_
  obtain ⟨g1, h⟩ := h
  obtain ⟨v, κ', ρ', he, h⟩ := h
  exact p_callV (cc3 c107_2) (Nat.le_of_ble_eq_true rfl) rfl rfl (Nat.le_of_ble_eq_true rfl) g1 he h
theorem B107_5 {ev : xV} {Q : Option Value → xM → Prop} {sz sl : Nat} {K L : Nat → Nat} {κ : Nat → Nat → Int32} {ρ : Nat → Nat → Nat} {x1 : Int32} {a0 b0 : Nat} (h : (K a0 = 12) ∧ ((ρ a0 15 = 0) → Q (some (.int ((-3)))) (Mm sz sl K L κ ρ)) ∧ (¬ (ρ a0 15 = 0) → (K (ρ a0 15) = 1) ∧ (¬ ρ (ρ a0 15) 0 = 0) ∧ ((K b0 = 3) ∧ ∃ r κ' ρ', ev 68 [.ref b0, .ref (ρ (ρ a0 15) 0)] (Mm sz sl K L κ ρ) (some (.int r)) (Mm sz sl K L κ' ρ') ∧ wpE (xT 107) ev Q (31, [(2, .ref b0), (0, .ref a0), (1, .int x1)], [.int r], Mm sz sl K L κ' ρ')))) : wpE (xT 107) ev Q (5, [(0, .ref a0), (1, .int x1)], [.ref b0], Mm sz sl K L κ ρ) := by
  refine p_ast (ls' := [(2, .ref b0), (0, .ref a0), (1, .int x1)]) (cc3 c107_5) (by decide) rfl ?_
  refine p_ald (cc3 c107_6) rfl ?_
  refine p_ifnR (cc3 c107_7) ?_
  refine p_ald (cc3 c107_13) rfl ?_
  obtain ⟨g1, h⟩ := h
  by_cases cz1 : ρ a0 15 = 0
  · have h := h.1 cz1
    refine p_getzN (cc3 c107_14) g1 cz1 ?_
    refine p_ifnN (cc3 c107_17) ?_
    refine p_lc (ls' := []) c107_34 rfl rfl ?_
    refine p_push (cct c107_34 rfl) ?_
    exact p_ri (cc3 c107_36) trivial h
  · have h := h.2 cz1
    refine p_getz (cc3 c107_14) g1 rfl cz1 ?_
    refine p_ifnR (cc3 c107_17) ?_
    refine p_ald (cc3 c107_20) rfl ?_
    refine p_ald (cc3 c107_21) rfl ?_
    refine p_getz (cc3 c107_22) g1 rfl cz1 ?_
    obtain ⟨g3, h⟩ := h
    obtain ⟨g4, h⟩ := h
    refine p_getp (cc3 c107_25) g3 rfl g4 ?_
    obtain ⟨g5, h⟩ := h
    obtain ⟨r, κ', ρ', he, h⟩ := h
    exact p_callV (cc3 c107_28) (Nat.le_of_ble_eq_true rfl) rfl rfl (Nat.le_of_ble_eq_true rfl) g5 he h
theorem B107_5n {ev : xV} {Q : Option Value → xM → Prop} {sz sl : Nat} {K L : Nat → Nat} {κ : Nat → Nat → Int32} {ρ : Nat → Nat → Nat} {x1 : Int32} {a0 : Nat} (h : Q (some (.int ((-2)))) (Mm sz sl K L κ ρ)) : wpE (xT 107) ev Q (5, [(0, .ref a0), (1, .int x1)], [.null], Mm sz sl K L κ ρ) := by
  refine p_astN (ls' := [(2, .null), (0, .ref a0), (1, .int x1)]) (cc3 c107_5) (by decide) rfl ?_
  refine p_aldN (cc3 c107_6) rfl ?_
  refine p_ifnN (cc3 c107_7) ?_
  refine p_push (cc3 c107_10) ?_
  exact p_ri (cc3 c107_12) trivial h
theorem B107_31 {ev : xV} {Q : Option Value → xM → Prop} {sz sl : Nat} {K L : Nat → Nat} {κ : Nat → Nat → Int32} {ρ : Nat → Nat → Nat} {x1 s0 : Int32} {a2 a0 : Nat} (h : ((s0 = 0) → Q (some (.int ((-3)))) (Mm sz sl K L κ ρ)) ∧ (¬ (s0 = 0) → ((K a0 = 12) ∧ ∃ r κ' ρ', ev 108 [.ref a0, .ref a2] (Mm sz sl K L κ ρ) (some (.int r)) (Mm sz sl K L κ' ρ') ∧ wpE (xT 107) ev Q (42, [(2, .ref a2), (0, .ref a0), (1, .int x1)], [.int r], Mm sz sl K L κ' ρ')))) : wpE (xT 107) ev Q (31, [(2, .ref a2), (0, .ref a0), (1, .int x1)], [.int s0], Mm sz sl K L κ ρ) := by
  refine p_if (cc3 c107_31) (fun c => ?_) (fun c => ?_)
  · have h := h.1 c
    refine p_lc (ls' := []) c107_34 rfl rfl ?_
    refine p_push (cct c107_34 rfl) ?_
    exact p_ri (cc3 c107_36) trivial h
  · have h := h.2 c
    refine p_ald (cc3 c107_37) rfl ?_
    refine p_ald (cc3 c107_38) rfl ?_
    obtain ⟨g1, h⟩ := h
    obtain ⟨r, κ', ρ', he, h⟩ := h
    exact p_callV (cc3 c107_39) (Nat.le_of_ble_eq_true rfl) rfl rfl (Nat.le_of_ble_eq_true rfl) g1 he h
theorem B107_42 {ev : xV} {Q : Option Value → xM → Prop} {sz sl : Nat} {K L : Nat → Nat} {κ : Nat → Nat → Int32} {ρ : Nat → Nat → Nat} {x1 s0 : Int32} {a2 a0 : Nat} (h : Q (some (.int s0)) (Mm sz sl K L κ ρ)) : wpE (xT 107) ev Q (42, [(2, .ref a2), (0, .ref a0), (1, .int x1)], [.int s0], Mm sz sl K L κ ρ) := by
  exact p_ri (cc3 c107_42) trivial h
theorem B108_0 {ev : xV} {Q : Option Value → xM → Prop} {sz sl : Nat} {K L : Nat → Nat} {κ : Nat → Nat → Int32} {ρ : Nat → Nat → Nat} {a0 a1 : Nat} (h : (K a1 = 3) ∧ (((κ a1 15) = 0) → (K a0 = 12) ∧ (¬ ρ a0 3 = 0) ∧ ((ρ a0 15 = 0) → ((K (ρ a0 3) = 4) ∧ ∃ r κ' ρ', ev 69 [.ref (ρ a0 3), .ref a1, .null] (Mm sz sl K L κ ρ) (some (.int r)) (Mm sz sl K L κ' ρ') ∧ wpE (xT 108) ev Q (20, [(0, .ref a0), (1, .ref a1)], [.int r, .ref a1], Mm sz sl K L κ' ρ'))) ∧ (¬ (ρ a0 15 = 0) → ((K (ρ a0 3) = 4) ∧ ∃ r κ' ρ', ev 69 [.ref (ρ a0 3), .ref a1, .ref (ρ a0 15)] (Mm sz sl K L κ ρ) (some (.int r)) (Mm sz sl K L κ' ρ') ∧ wpE (xT 108) ev Q (20, [(0, .ref a0), (1, .ref a1)], [.int r, .ref a1], Mm sz sl K L κ' ρ')))) ∧ (¬ ((κ a1 15) = 0) → Q (some (.int (κ a1 15))) (Mm sz sl K L κ ρ))) : wpE (xT 108) ev Q (0, [(0, .ref a0), (1, .ref a1)], [], Mm sz sl K L κ ρ) := by
  refine p_ald (cc3 c108_0) rfl ?_
  obtain ⟨g1, h⟩ := h
  refine p_geti (cc3 c108_1) g1 rfl ?_
  refine p_if (cc3 c108_4) (fun c => ?_) (fun c => ?_)
  · have h := h.1 c
    refine p_ald (cc3 c108_7) rfl ?_
    refine p_ald (cc3 c108_8) rfl ?_
    obtain ⟨g2, h⟩ := h
    obtain ⟨g3, h⟩ := h
    refine p_getp (cc3 c108_9) g2 rfl g3 ?_
    refine p_ald (cc3 c108_12) rfl ?_
    refine p_ald (cc3 c108_13) rfl ?_
    by_cases cz3 : ρ a0 15 = 0
    · have h := h.1 cz3
      refine p_getzN (cc3 c108_14) g2 cz3 ?_
      obtain ⟨g5, h⟩ := h
      obtain ⟨r, κ', ρ', he, h⟩ := h
      exact p_callV (cc3 c108_17) (Nat.le_of_ble_eq_true rfl) rfl rfl (Nat.le_of_ble_eq_true rfl) g5 he h
    · have h := h.2 cz3
      refine p_getz (cc3 c108_14) g2 rfl cz3 ?_
      obtain ⟨g5, h⟩ := h
      obtain ⟨r, κ', ρ', he, h⟩ := h
      exact p_callV (cc3 c108_17) (Nat.le_of_ble_eq_true rfl) rfl rfl (Nat.le_of_ble_eq_true rfl) g5 he h
  · have h := h.2 c
    refine p_lc (ls' := [(1, .ref a1)]) c108_23 rfl rfl ?_
    refine p_ald (cct c108_23 rfl) rfl ?_
    refine p_geti (cc3 c108_24) g1 rfl ?_
    exact p_ri (cc3 c108_27) trivial h
theorem B108_20 {ev : xV} {Q : Option Value → xM → Prop} {sz sl : Nat} {K L : Nat → Nat} {κ : Nat → Nat → Int32} {ρ : Nat → Nat → Nat} {s0 : Int32} {a0 a1 b1 : Nat} (h : (K b1 = 3) ∧ (K a1 = 3) ∧ Q (some (.int ((U κ b1 15 s0) a1 15))) (Mm sz sl K L (U κ b1 15 s0) ρ)) : wpE (xT 108) ev Q (20, [(0, .ref a0), (1, .ref a1)], [.int s0, .ref b1], Mm sz sl K L κ ρ) := by
  obtain ⟨g1, h⟩ := h
  refine p_puti (cc3 c108_20) g1 mm_xpi ?_
  refine p_lc (ls' := [(1, .ref a1)]) c108_23 rfl rfl ?_
  refine p_ald (cct c108_23 rfl) rfl ?_
  obtain ⟨g2, h⟩ := h
  refine p_geti (cc3 c108_24) g2 rfl ?_
  exact p_ri (cc3 c108_27) trivial h
theorem B109_0 {ev : xV} {Q : Option Value → xM → Prop} {sz sl : Nat} {K L : Nat → Nat} {κ : Nat → Nat → Int32} {ρ : Nat → Nat → Nat} {x1 : Int32} {a0 : Nat} (h : ((x1 < 0) → Q (some (.int ((-2)))) (Mm sz sl K L κ ρ)) ∧ (¬ (x1 < 0) → (K a0 = 12) ∧ ((x1 < ((1 : Int32) <<< ((κ a0 12) &&& 31))) → ((ρ a0 15 = 0) → Q (some (.int ((-3)))) (Mm sz sl K L κ ρ)) ∧ (¬ (ρ a0 15 = 0) → wpE (xT 109) ev Q (29, [(0, .ref a0), (1, .int x1), (2, .int 0)], [], Mm sz sl K L κ ρ))) ∧ (¬ (x1 < ((1 : Int32) <<< ((κ a0 12) &&& 31))) → Q (some (.int ((-2)))) (Mm sz sl K L κ ρ)))) : wpE (xT 109) ev Q (0, [(0, .ref a0), (1, .int x1)], [], Mm sz sl K L κ ρ) := by
  refine p_ild (cc3 c109_0) rfl ?_
  refine p_if (cc3 c109_1) (fun c => ?_) (fun c => ?_)
  · have h := h.1 c
    refine p_lc (ls' := []) c109_14 rfl rfl ?_
    refine p_push (cct c109_14 rfl) ?_
    exact p_ri (cc3 c109_16) trivial h
  · have h := h.2 c
    refine p_ild (cc3 c109_4) rfl ?_
    refine p_push (cc3 c109_5) ?_
    refine p_ald (cc3 c109_6) rfl ?_
    obtain ⟨g1, h⟩ := h
    refine p_geti (cc3 c109_7) g1 rfl ?_
    refine p_bin (cc3 c109_10) ?_
    refine p_icmp (cc3 c109_11) (fun c => ?_) (fun c => ?_)
    · have h := h.1 c
      refine p_ald (cc3 c109_17) rfl ?_
      by_cases cz1 : ρ a0 15 = 0
      · have h := h.1 cz1
        refine p_getzN (cc3 c109_18) g1 cz1 ?_
        refine p_ifnN (cc3 c109_21) ?_
        refine p_push (cc3 c109_24) ?_
        exact p_ri (cc3 c109_26) trivial h
      · have h := h.2 cz1
        refine p_getz (cc3 c109_18) g1 rfl cz1 ?_
        refine p_ifnR (cc3 c109_21) ?_
        refine p_push (cc3 c109_27) ?_
        refine p_ist (ls' := [(2, .int 0), (0, .ref a0), (1, .int x1)]) (cc3 c109_28) (by decide) rfl ?_
        exact p_lc (ls' := [(0, .ref a0), (1, .int x1), (2, .int 0)]) c109_29 rfl rfl h
    · have h := h.2 c
      refine p_lc (ls' := []) c109_14 rfl rfl ?_
      refine p_push (cct c109_14 rfl) ?_
      exact p_ri (cc3 c109_16) trivial h
theorem B109_29 {ev : xV} {Q : Option Value → xM → Prop} {sz sl : Nat} {K L : Nat → Nat} {κ : Nat → Nat → Int32} {ρ : Nat → Nat → Nat} {x1 x2 : Int32} {a0 : Nat} (h : ((4 ≤ x2) → wpE (xT 109) ev Q (76, [(0, .ref a0), (1, .int x1), (2, .int 0)], [], Mm sz sl K L κ ρ)) ∧ (¬ (4 ≤ x2) → ((K a0 = 12) ∧ ∃ v : Value, ∃ κ' ρ', ev 54 [.ref a0, .int x2] (Mm sz sl K L κ ρ) (some (v)) (Mm sz sl K L κ' ρ') ∧ wpE (xT 109) ev Q (39, [(0, .ref a0), (1, .int x1), (2, .int x2)], [v], Mm sz sl K L κ' ρ')))) : wpE (xT 109) ev Q (29, [(0, .ref a0), (1, .int x1), (2, .int x2)], [], Mm sz sl K L κ ρ) := by
  refine p_ild (cct c109_29 rfl) rfl ?_
  refine p_push (cc3 c109_30) ?_
  refine p_icmp (cc3 c109_31) (fun c => ?_) (fun c => ?_)
  · have h := h.1 c
    refine p_push (cc3 c109_74) ?_
    refine p_ist (ls' := [(2, .int 0), (0, .ref a0), (1, .int x1)]) (cc3 c109_75) (by decide) rfl ?_
    exact p_lc (ls' := [(0, .ref a0), (1, .int x1), (2, .int 0)]) c109_76 rfl rfl h
  · have h := h.2 c
    refine p_ald (cc3 c109_34) rfl ?_
    refine p_ild (cc3 c109_35) rfl ?_
    obtain ⟨g1, h⟩ := h
    obtain ⟨v, κ', ρ', he, h⟩ := h
    exact p_callV (cc3 c109_36) (Nat.le_of_ble_eq_true rfl) rfl rfl (Nat.le_of_ble_eq_true rfl) g1 he h
theorem B109_39 {ev : xV} {Q : Option Value → xM → Prop} {sz sl : Nat} {K L : Nat → Nat} {κ : Nat → Nat → Int32} {ρ : Nat → Nat → Nat} {x1 x2 : Int32} {a0 b0 : Nat} (h : (K a0 = 12) ∧ (¬ ρ a0 4 = 0) ∧ (K (ρ a0 4) = 2) ∧ (¬ ρ (ρ a0 4) 1 = 0) ∧ (K b0 = 1) ∧ (((κ b0 1) = 0) → (K (ρ (ρ a0 4) 1) = 20) ∧ (vp_in x2 (L (ρ (ρ a0 4) 1))) ∧ wpE (xT 109) ev Q (29, [(0, .ref a0), (1, .int x1), (2, .int (x2 + 1))], [], Mm sz sl K L (U κ (ρ (ρ a0 4) 1) x2.toNatClampNeg (κ b0 2)) ρ)) ∧ (¬ ((κ b0 1) = 0) → (K (ρ (ρ a0 4) 1) = 20) ∧ (vp_in x2 (L (ρ (ρ a0 4) 1))) ∧ wpE (xT 109) ev Q (29, [(0, .ref a0), (1, .int x1), (2, .int (x2 + 1))], [], Mm sz sl K L (U κ (ρ (ρ a0 4) 1) x2.toNatClampNeg 0) ρ))) : wpE (xT 109) ev Q (39, [(0, .ref a0), (1, .int x1), (2, .int x2)], [.ref b0], Mm sz sl K L κ ρ) := by
  refine p_ast (ls' := [(3, .ref b0), (0, .ref a0), (1, .int x1), (2, .int x2)]) (cc3 c109_39) (by decide) rfl ?_
  refine p_ald (cc3 c109_40) rfl ?_
  obtain ⟨g1, h⟩ := h
  obtain ⟨g2, h⟩ := h
  refine p_getp (cc3 c109_41) g1 rfl g2 ?_
  obtain ⟨g3, h⟩ := h
  obtain ⟨g4, h⟩ := h
  refine p_getp (cc3 c109_44) g3 rfl g4 ?_
  refine p_ild (cc3 c109_47) rfl ?_
  refine p_ald (cc3 c109_48) rfl ?_
  refine p_ifnR (cc3 c109_49) ?_
  refine p_ald (cc3 c109_52) rfl ?_
  obtain ⟨g5, h⟩ := h
  refine p_geti (cc3 c109_53) g5 rfl ?_
  refine p_if (cc3 c109_56) (fun c => ?_) (fun c => ?_)
  · have h := h.1 c
    refine p_ald (cc3 c109_59) rfl ?_
    refine p_geti (cc3 c109_60) g5 rfl ?_
    refine p_goto (cc3 c109_63) ?_
    refine p_lc (ls' := [(0, .ref a0), (1, .int x1), (2, .int x2)]) c109_67 rfl rfl ?_
    obtain ⟨g6, h⟩ := h
    obtain ⟨g7, h⟩ := h
    refine p_asti (cct c109_67 rfl) g6 g7 mm_xpi ?_
    refine p_iinc (y := x2 + 1) (ls' := [(2, .int (x2 + 1)), (0, .ref a0), (1, .int x1)]) (cc3 c109_68) (by decide) rfl rfl rfl ?_
    refine p_goto (cc3 c109_71) ?_
    exact p_lc (ls' := [(0, .ref a0), (1, .int x1), (2, .int (x2 + 1))]) c109_29 rfl rfl h
  · have h := h.2 c
    refine p_lc (ls' := [(0, .ref a0), (1, .int x1), (2, .int x2)]) c109_66 rfl rfl ?_
    refine p_push (cct c109_66 rfl) ?_
    obtain ⟨g6, h⟩ := h
    obtain ⟨g7, h⟩ := h
    refine p_asti (cct c109_67 rfl) g6 g7 mm_xpi ?_
    refine p_iinc (y := x2 + 1) (ls' := [(2, .int (x2 + 1)), (0, .ref a0), (1, .int x1)]) (cc3 c109_68) (by decide) rfl rfl rfl ?_
    refine p_goto (cc3 c109_71) ?_
    exact p_lc (ls' := [(0, .ref a0), (1, .int x1), (2, .int (x2 + 1))]) c109_29 rfl rfl h
theorem B109_39n {ev : xV} {Q : Option Value → xM → Prop} {sz sl : Nat} {K L : Nat → Nat} {κ : Nat → Nat → Int32} {ρ : Nat → Nat → Nat} {x1 x2 : Int32} {a0 : Nat} (h : (K a0 = 12) ∧ (¬ ρ a0 4 = 0) ∧ (K (ρ a0 4) = 2) ∧ (¬ ρ (ρ a0 4) 1 = 0) ∧ (K (ρ (ρ a0 4) 1) = 20) ∧ (vp_in x2 (L (ρ (ρ a0 4) 1))) ∧ wpE (xT 109) ev Q (29, [(0, .ref a0), (1, .int x1), (2, .int (x2 + 1))], [], Mm sz sl K L (U κ (ρ (ρ a0 4) 1) x2.toNatClampNeg 0) ρ)) : wpE (xT 109) ev Q (39, [(0, .ref a0), (1, .int x1), (2, .int x2)], [.null], Mm sz sl K L κ ρ) := by
  refine p_astN (ls' := [(3, .null), (0, .ref a0), (1, .int x1), (2, .int x2)]) (cc3 c109_39) (by decide) rfl ?_
  refine p_ald (cc3 c109_40) rfl ?_
  obtain ⟨g1, h⟩ := h
  obtain ⟨g2, h⟩ := h
  refine p_getp (cc3 c109_41) g1 rfl g2 ?_
  obtain ⟨g3, h⟩ := h
  obtain ⟨g4, h⟩ := h
  refine p_getp (cc3 c109_44) g3 rfl g4 ?_
  refine p_ild (cc3 c109_47) rfl ?_
  refine p_aldN (cc3 c109_48) rfl ?_
  refine p_ifnN (cc3 c109_49) ?_
  refine p_lc (ls' := [(0, .ref a0), (1, .int x1), (2, .int x2)]) c109_66 rfl rfl ?_
  refine p_push (cct c109_66 rfl) ?_
  obtain ⟨g5, h⟩ := h
  obtain ⟨g6, h⟩ := h
  refine p_asti (cct c109_67 rfl) g5 g6 mm_xpi ?_
  refine p_iinc (y := x2 + 1) (ls' := [(2, .int (x2 + 1)), (0, .ref a0), (1, .int x1)]) (cc3 c109_68) (by decide) rfl rfl rfl ?_
  refine p_goto (cc3 c109_71) ?_
  exact p_lc (ls' := [(0, .ref a0), (1, .int x1), (2, .int (x2 + 1))]) c109_29 rfl rfl h
theorem B109_76 {ev : xV} {Q : Option Value → xM → Prop} {sz sl : Nat} {K L : Nat → Nat} {κ : Nat → Nat → Int32} {ρ : Nat → Nat → Nat} {x1 x2 : Int32} {a0 : Nat} (h : ((8 ≤ x2) → (K a0 = 12) ∧ (¬ ρ a0 4 = 0) ∧ ((K (ρ a0 4) = 2) ∧ ∃ r κ' ρ', ev 110 [.ref (ρ a0 4)] (Mm sz sl K L κ ρ) (some (.int r)) (Mm sz sl K L κ' ρ') ∧ wpE (xT 109) ev Q (150, [(0, .ref a0), (1, .int x1), (2, .int x2)], [.int r], Mm sz sl K L κ' ρ'))) ∧ (¬ (8 ≤ x2) → ((((x1 >>> (x2 &&& 31)) &&& (1 : Int32)) = 1) → ((K a0 = 12) ∧ ∃ v : Value, ∃ κ' ρ', ev 66 [.ref a0, .int x2] (Mm sz sl K L κ ρ) (some (v)) (Mm sz sl K L κ' ρ') ∧ wpE (xT 109) ev Q (96, [(0, .ref a0), (1, .int x1), (2, .int x2)], [v], Mm sz sl K L κ' ρ'))) ∧ (¬ (((x1 >>> (x2 &&& 31)) &&& (1 : Int32)) = 1) → wpE (xT 109) ev Q (100, [(0, .ref a0), (1, .int x1), (2, .int x2)], [.null], Mm sz sl K L κ ρ)))) : wpE (xT 109) ev Q (76, [(0, .ref a0), (1, .int x1), (2, .int x2)], [], Mm sz sl K L κ ρ) := by
  refine p_ild (cct c109_76 rfl) rfl ?_
  refine p_push (cc3 c109_77) ?_
  refine p_icmp (cc3 c109_79) (fun c => ?_) (fun c => ?_)
  · have h := h.1 c
    refine p_ald (cc3 c109_143) rfl ?_
    obtain ⟨g1, h⟩ := h
    obtain ⟨g2, h⟩ := h
    refine p_getp (cc3 c109_144) g1 rfl g2 ?_
    obtain ⟨g3, h⟩ := h
    obtain ⟨r, κ', ρ', he, h⟩ := h
    exact p_callV (cc3 c109_147) (Nat.le_of_ble_eq_true rfl) rfl rfl (Nat.le_of_ble_eq_true rfl) g3 he h
  · have h := h.2 c
    refine p_ild (cc3 c109_82) rfl ?_
    refine p_ild (cc3 c109_83) rfl ?_
    refine p_bin (cc3 c109_84) ?_
    refine p_push (cc3 c109_85) ?_
    refine p_bin (cc3 c109_86) ?_
    refine p_push (cc3 c109_87) ?_
    refine p_icmp (cc3 c109_88) (fun c => ?_) (fun c => ?_)
    · have h := h.1 c
      refine p_ald (cc3 c109_91) rfl ?_
      refine p_ild (cc3 c109_92) rfl ?_
      obtain ⟨g1, h⟩ := h
      obtain ⟨v, κ', ρ', he, h⟩ := h
      exact p_callV (cc3 c109_93) (Nat.le_of_ble_eq_true rfl) rfl rfl (Nat.le_of_ble_eq_true rfl) g1 he h
    · have h := h.2 c
      refine p_push (cc3 c109_99) ?_
      exact h
theorem B109_96 {ev : xV} {Q : Option Value → xM → Prop} {sz sl : Nat} {K L : Nat → Nat} {κ : Nat → Nat → Int32} {ρ : Nat → Nat → Nat} {x1 x2 : Int32} {a0 b0 : Nat} (h : wpE (xT 109) ev Q (100, [(0, .ref a0), (1, .int x1), (2, .int x2)], [.ref b0], Mm sz sl K L κ ρ)) : wpE (xT 109) ev Q (96, [(0, .ref a0), (1, .int x1), (2, .int x2)], [.ref b0], Mm sz sl K L κ ρ) := by
  refine p_goto (cc3 c109_96) ?_
  exact h
theorem B109_96n {ev : xV} {Q : Option Value → xM → Prop} {sz sl : Nat} {K L : Nat → Nat} {κ : Nat → Nat → Int32} {ρ : Nat → Nat → Nat} {x1 x2 : Int32} {a0 : Nat} (h : wpE (xT 109) ev Q (100, [(0, .ref a0), (1, .int x1), (2, .int x2)], [.null], Mm sz sl K L κ ρ)) : wpE (xT 109) ev Q (96, [(0, .ref a0), (1, .int x1), (2, .int x2)], [.null], Mm sz sl K L κ ρ) := by
  refine p_goto (cc3 c109_96) ?_
  exact h
theorem B109_100 {ev : xV} {Q : Option Value → xM → Prop} {sz sl : Nat} {K L : Nat → Nat} {κ : Nat → Nat → Int32} {ρ : Nat → Nat → Nat} {x1 x2 : Int32} {a0 b0 : Nat} (h : (K a0 = 12) ∧ (¬ ρ a0 4 = 0) ∧ (K (ρ a0 4) = 2) ∧ (¬ ρ (ρ a0 4) 0 = 0) ∧ ((ρ a0 15 = 0) → False) ∧ (¬ (ρ a0 15 = 0) → (K (ρ a0 15) = 1) ∧ (¬ ρ (ρ a0 15) 0 = 0) ∧ ((K b0 = 3) ∧ ∃ r κ' ρ', ev 68 [.ref b0, .ref (ρ (ρ a0 15) 0)] (Mm sz sl K L κ ρ) (some (.int r)) (Mm sz sl K L κ' ρ') ∧ wpE (xT 109) ev Q (124, [(3, .ref b0), (0, .ref a0), (1, .int x1), (2, .int x2)], [.int r, .int x2, .ref (ρ (ρ a0 4) 0)], Mm sz sl K L κ' ρ')))) : wpE (xT 109) ev Q (100, [(0, .ref a0), (1, .int x1), (2, .int x2)], [.ref b0], Mm sz sl K L κ ρ) := by
  refine p_ast (ls' := [(3, .ref b0), (0, .ref a0), (1, .int x1), (2, .int x2)]) (cct c109_100 rfl) (by decide) rfl ?_
  refine p_ald (cc3 c109_101) rfl ?_
  obtain ⟨g1, h⟩ := h
  obtain ⟨g2, h⟩ := h
  refine p_getp (cc3 c109_102) g1 rfl g2 ?_
  obtain ⟨g3, h⟩ := h
  obtain ⟨g4, h⟩ := h
  refine p_getp (cc3 c109_105) g3 rfl g4 ?_
  refine p_ild (cc3 c109_108) rfl ?_
  refine p_ald (cc3 c109_109) rfl ?_
  refine p_ifnR (cc3 c109_110) ?_
  refine p_ald (cc3 c109_113) rfl ?_
  refine p_ald (cc3 c109_114) rfl ?_
  by_cases cz4 : ρ a0 15 = 0
  · have h := h.1 cz4
    refine p_getzN (cc3 c109_115) g1 cz4 ?_
    exact h.elim
  · have h := h.2 cz4
    refine p_getz (cc3 c109_115) g1 rfl cz4 ?_
    obtain ⟨g6, h⟩ := h
    obtain ⟨g7, h⟩ := h
    refine p_getp (cc3 c109_118) g6 rfl g7 ?_
    obtain ⟨g8, h⟩ := h
    obtain ⟨r, κ', ρ', he, h⟩ := h
    exact p_callV (cc3 c109_121) (Nat.le_of_ble_eq_true rfl) rfl rfl (Nat.le_of_ble_eq_true rfl) g8 he h
theorem B109_100n {ev : xV} {Q : Option Value → xM → Prop} {sz sl : Nat} {K L : Nat → Nat} {κ : Nat → Nat → Int32} {ρ : Nat → Nat → Nat} {x1 x2 : Int32} {a0 : Nat} (h : (K a0 = 12) ∧ (¬ ρ a0 4 = 0) ∧ (K (ρ a0 4) = 2) ∧ (¬ ρ (ρ a0 4) 0 = 0) ∧ (K (ρ (ρ a0 4) 0) = 20) ∧ (vp_in x2 (L (ρ (ρ a0 4) 0))) ∧ wpE (xT 109) ev Q (76, [(0, .ref a0), (1, .int x1), (2, .int (x2 + 1))], [], Mm sz sl K L (U κ (ρ (ρ a0 4) 0) x2.toNatClampNeg (-1)) ρ)) : wpE (xT 109) ev Q (100, [(0, .ref a0), (1, .int x1), (2, .int x2)], [.null], Mm sz sl K L κ ρ) := by
  refine p_astN (ls' := [(3, .null), (0, .ref a0), (1, .int x1), (2, .int x2)]) (cct c109_100 rfl) (by decide) rfl ?_
  refine p_ald (cc3 c109_101) rfl ?_
  obtain ⟨g1, h⟩ := h
  obtain ⟨g2, h⟩ := h
  refine p_getp (cc3 c109_102) g1 rfl g2 ?_
  obtain ⟨g3, h⟩ := h
  obtain ⟨g4, h⟩ := h
  refine p_getp (cc3 c109_105) g3 rfl g4 ?_
  refine p_ild (cc3 c109_108) rfl ?_
  refine p_aldN (cc3 c109_109) rfl ?_
  refine p_ifnN (cc3 c109_110) ?_
  refine p_lc (ls' := [(0, .ref a0), (1, .int x1), (2, .int x2)]) c109_135 rfl rfl ?_
  refine p_push (cct c109_135 rfl) ?_
  obtain ⟨g5, h⟩ := h
  obtain ⟨g6, h⟩ := h
  refine p_asti (cct c109_136 rfl) g5 g6 mm_xpi ?_
  refine p_iinc (y := x2 + 1) (ls' := [(2, .int (x2 + 1)), (0, .ref a0), (1, .int x1)]) (cc3 c109_137) (by decide) rfl rfl rfl ?_
  refine p_goto (cc3 c109_140) ?_
  exact p_lc (ls' := [(0, .ref a0), (1, .int x1), (2, .int (x2 + 1))]) c109_76 rfl rfl h
theorem B109_124 {ev : xV} {Q : Option Value → xM → Prop} {sz sl : Nat} {K L : Nat → Nat} {κ : Nat → Nat → Int32} {ρ : Nat → Nat → Nat} {x1 x2 s0 s1 : Int32} {a3 a0 b2 : Nat} (h : ((s0 = 0) → (K b2 = 20) ∧ (vp_in s1 (L b2)) ∧ wpE (xT 109) ev Q (76, [(0, .ref a0), (1, .int x1), (2, .int (x2 + 1))], [], Mm sz sl K L (U κ b2 s1.toNatClampNeg (-1)) ρ)) ∧ (¬ (s0 = 0) → ((K a0 = 12) ∧ ∃ r κ' ρ', ev 108 [.ref a0, .ref a3] (Mm sz sl K L κ ρ) (some (.int r)) (Mm sz sl K L κ' ρ') ∧ wpE (xT 109) ev Q (132, [(3, .ref a3), (0, .ref a0), (1, .int x1), (2, .int x2)], [.int r, .int s1, .ref b2], Mm sz sl K L κ' ρ')))) : wpE (xT 109) ev Q (124, [(3, .ref a3), (0, .ref a0), (1, .int x1), (2, .int x2)], [.int s0, .int s1, .ref b2], Mm sz sl K L κ ρ) := by
  refine p_if (cc3 c109_124) (fun c => ?_) (fun c => ?_)
  · have h := h.1 c
    refine p_lc (ls' := [(0, .ref a0), (1, .int x1), (2, .int x2)]) c109_135 rfl rfl ?_
    refine p_push (cct c109_135 rfl) ?_
    obtain ⟨g1, h⟩ := h
    obtain ⟨g2, h⟩ := h
    refine p_asti (cct c109_136 rfl) g1 g2 mm_xpi ?_
    refine p_iinc (y := x2 + 1) (ls' := [(2, .int (x2 + 1)), (0, .ref a0), (1, .int x1)]) (cc3 c109_137) (by decide) rfl rfl rfl ?_
    refine p_goto (cc3 c109_140) ?_
    exact p_lc (ls' := [(0, .ref a0), (1, .int x1), (2, .int (x2 + 1))]) c109_76 rfl rfl h
  · have h := h.2 c
    refine p_ald (cc3 c109_127) rfl ?_
    refine p_ald (cc3 c109_128) rfl ?_
    obtain ⟨g1, h⟩ := h
    obtain ⟨r, κ', ρ', he, h⟩ := h
    exact p_callV (cc3 c109_129) (Nat.le_of_ble_eq_true rfl) rfl rfl (Nat.le_of_ble_eq_true rfl) g1 he h
theorem B109_132 {ev : xV} {Q : Option Value → xM → Prop} {sz sl : Nat} {K L : Nat → Nat} {κ : Nat → Nat → Int32} {ρ : Nat → Nat → Nat} {x1 x2 s0 s1 : Int32} {a3 a0 b2 : Nat} (h : (K b2 = 20) ∧ (vp_in s1 (L b2)) ∧ wpE (xT 109) ev Q (76, [(0, .ref a0), (1, .int x1), (2, .int (x2 + 1))], [], Mm sz sl K L (U κ b2 s1.toNatClampNeg s0) ρ)) : wpE (xT 109) ev Q (132, [(3, .ref a3), (0, .ref a0), (1, .int x1), (2, .int x2)], [.int s0, .int s1, .ref b2], Mm sz sl K L κ ρ) := by
  refine p_goto (cc3 c109_132) ?_
  refine p_lc (ls' := [(0, .ref a0), (1, .int x1), (2, .int x2)]) c109_136 rfl rfl ?_
  obtain ⟨g1, h⟩ := h
  obtain ⟨g2, h⟩ := h
  refine p_asti (cct c109_136 rfl) g1 g2 mm_xpi ?_
  refine p_iinc (y := x2 + 1) (ls' := [(2, .int (x2 + 1)), (0, .ref a0), (1, .int x1)]) (cc3 c109_137) (by decide) rfl rfl rfl ?_
  refine p_goto (cc3 c109_140) ?_
  exact p_lc (ls' := [(0, .ref a0), (1, .int x1), (2, .int (x2 + 1))]) c109_76 rfl rfl h
theorem B109_150 {ev : xV} {Q : Option Value → xM → Prop} {sz sl : Nat} {K L : Nat → Nat} {κ : Nat → Nat → Int32} {ρ : Nat → Nat → Nat} {x1 x2 s0 : Int32} {a0 : Nat} (h : Q (some (.int s0)) (Mm sz sl K L κ ρ)) : wpE (xT 109) ev Q (150, [(0, .ref a0), (1, .int x1), (2, .int x2)], [.int s0], Mm sz sl K L κ ρ) := by
  exact p_ri (cc3 c109_150) trivial h
