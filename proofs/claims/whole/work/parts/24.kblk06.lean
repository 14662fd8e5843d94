theorem B85_0 {ev : xV} {Q : Option Value → xM → Prop} {sz sl : Nat} {K L : Nat → Nat} {κ : Nat → Nat → Int32} {ρ : Nat → Nat → Nat} {x2 : Int32} {a0 a1 : Nat} (h : (K a0 = 3) ∧ (¬ a1 = 0) ∧ Q none (Mm sz sl K L (U (U (U κ a0 12 x2) a0 13 ((U κ a0 12 x2) a0 6)) a0 14 0) (UR ρ a0 11 a1))) : wpE (xT 85) ev Q (0, [(0, .ref a0), (1, .ref a1), (2, .int x2)], [], Mm sz sl K L κ ρ) := by
  refine p_ald (cc3 c85_0) rfl ?_
  refine p_ald (cc3 c85_1) rfl ?_
  obtain ⟨g1, h⟩ := h
  obtain ⟨g2, h⟩ := h
  refine p_putp (cc3 c85_2) g1 g2 mm_xpp ?_
  refine p_ald (cc3 c85_5) rfl ?_
  refine p_ild (cc3 c85_6) rfl ?_
  refine p_puti (cc3 c85_7) g1 mm_xpi ?_
  refine p_ald (cc3 c85_10) rfl ?_
  refine p_ald (cc3 c85_11) rfl ?_
  refine p_geti (cc3 c85_12) g1 rfl ?_
  refine p_puti (cc3 c85_15) g1 mm_xpi ?_
  refine p_ald (cc3 c85_18) rfl ?_
  refine p_push (cc3 c85_19) ?_
  refine p_putb (cc3 c85_20) g1 (by decide) mm_xpi ?_
  exact p_rv (cc3 c85_23) h
theorem B86_0 {ev : xV} {Q : Option Value → xM → Prop} {sz sl : Nat} {K L : Nat → Nat} {κ : Nat → Nat → Int32} {ρ : Nat → Nat → Nat} {x1 x2 : Int32} {a0 : Nat} (h : ((K a0 = 12) ∧ ∃ v : Value, ∃ κ' ρ', ev 66 [.ref a0, .int x1] (Mm sz sl K L κ ρ) (some (v)) (Mm sz sl K L κ' ρ') ∧ wpE (xT 86) ev Q (5, [(0, .ref a0), (1, .int x1), (2, .int x2)], [v], Mm sz sl K L κ' ρ'))) : wpE (xT 86) ev Q (0, [(0, .ref a0), (1, .int x1), (2, .int x2)], [], Mm sz sl K L κ ρ) := by
  refine p_ald (cc3 c86_0) rfl ?_
  refine p_ild (cc3 c86_1) rfl ?_
  obtain ⟨g1, h⟩ := h
  obtain ⟨v, κ', ρ', he, h⟩ := h
  exact p_callV (cc3 c86_2) (Nat.le_of_ble_eq_true rfl) rfl rfl (Nat.le_of_ble_eq_true rfl) g1 he h
theorem B86_5 {ev : xV} {Q : Option Value → xM → Prop} {sz sl : Nat} {K L : Nat → Nat} {κ : Nat → Nat → Int32} {ρ : Nat → Nat → Nat} {x1 x2 : Int32} {a0 b0 : Nat} (h : ((x2 < 0) → Q (some (.int ((-2)))) (Mm sz sl K L κ ρ)) ∧ (¬ (x2 < 0) → ((x2 ≤ 4) → (K b0 = 3) ∧ ((ρ b0 11 = 0) → Q (some (.int ((-3)))) (Mm sz sl K L κ ρ)) ∧ (¬ (ρ b0 11 = 0) → ((x2 = 0) → (¬ ρ b0 10 = 0) ∧ (K (ρ b0 10) = 5) ∧ Q (some (.int (κ (ρ b0 10) 2))) (Mm sz sl K L κ ρ)) ∧ (¬ (x2 = 0) → ((x2 = 1) → (¬ ρ b0 10 = 0) ∧ (K (ρ b0 10) = 5) ∧ Q (some (.int (κ (ρ b0 10) 3))) (Mm sz sl K L κ ρ)) ∧ (¬ (x2 = 1) → ((x2 = 2) → (¬ ρ b0 10 = 0) ∧ (K (ρ b0 10) = 5) ∧ Q (some (.int (κ (ρ b0 10) 4))) (Mm sz sl K L κ ρ)) ∧ (¬ (x2 = 2) → ((x2 = 3) → (¬ ρ b0 10 = 0) ∧ (K (ρ b0 10) = 5) ∧ Q (some (.int (κ (ρ b0 10) 5))) (Mm sz sl K L κ ρ)) ∧ (¬ (x2 = 3) → (¬ ρ b0 10 = 0) ∧ (K (ρ b0 10) = 5) ∧ Q (some (.int (κ (ρ b0 10) 6))) (Mm sz sl K L κ ρ))))))) ∧ (¬ (x2 ≤ 4) → Q (some (.int ((-2)))) (Mm sz sl K L κ ρ)))) : wpE (xT 86) ev Q (5, [(0, .ref a0), (1, .int x1), (2, .int x2)], [.ref b0], Mm sz sl K L κ ρ) := by
  refine p_ast (ls' := [(3, .ref b0), (0, .ref a0), (1, .int x1), (2, .int x2)]) (cc3 c86_5) (by decide) rfl ?_
  refine p_ald (cc3 c86_6) rfl ?_
  refine p_ifnR (cc3 c86_7) ?_
  refine p_ild (cc3 c86_10) rfl ?_
  refine p_if (cc3 c86_11) (fun c => ?_) (fun c => ?_)
  · have h := h.1 c
    refine p_lc (ls' := []) c86_19 rfl rfl ?_
    refine p_push (cct c86_19 rfl) ?_
    exact p_ri (cc3 c86_21) trivial h
  · have h := h.2 c
    refine p_ild (cc3 c86_14) rfl ?_
    refine p_push (cc3 c86_15) ?_
    refine p_icmp (cc3 c86_16) (fun c => ?_) (fun c => ?_)
    · have h := h.1 c
      refine p_ald (cc3 c86_22) rfl ?_
      obtain ⟨g1, h⟩ := h
      by_cases cz1 : ρ b0 11 = 0
      · have h := h.1 cz1
        refine p_getzN (cc3 c86_23) g1 cz1 ?_
        refine p_ifnN (cc3 c86_26) ?_
        refine p_push (cc3 c86_29) ?_
        exact p_ri (cc3 c86_31) trivial h
      · have h := h.2 cz1
        refine p_getz (cc3 c86_23) g1 rfl cz1 ?_
        refine p_ifnR (cc3 c86_26) ?_
        refine p_ild (cc3 c86_32) rfl ?_
        refine p_sw (cc3 c86_33) ?_
        refine ⟨fun c => ?_, fun c => ?_⟩
        · have h := h.1 c
          refine p_ald (cc3 c86_64) rfl ?_
          obtain ⟨g3, h⟩ := h
          refine p_getp (cc3 c86_65) g1 rfl g3 ?_
          obtain ⟨g4, h⟩ := h
          refine p_geti (cc3 c86_68) g4 rfl ?_
          exact p_ri (cc3 c86_71) trivial h
        · have h := h.2 c
          refine ⟨fun c => ?_, fun c => ?_⟩
          · have h := h.1 c
            refine p_ald (cc3 c86_72) rfl ?_
            obtain ⟨g3, h⟩ := h
            refine p_getp (cc3 c86_73) g1 rfl g3 ?_
            obtain ⟨g4, h⟩ := h
            refine p_geti (cc3 c86_76) g4 rfl ?_
            exact p_ri (cc3 c86_79) trivial h
          · have h := h.2 c
            refine ⟨fun c => ?_, fun c => ?_⟩
            · have h := h.1 c
              refine p_ald (cc3 c86_80) rfl ?_
              obtain ⟨g3, h⟩ := h
              refine p_getp (cc3 c86_81) g1 rfl g3 ?_
              obtain ⟨g4, h⟩ := h
              refine p_geti (cc3 c86_84) g4 rfl ?_
              exact p_ri (cc3 c86_87) trivial h
            · have h := h.2 c
              refine ⟨fun c => ?_, fun c => ?_⟩
              · have h := h.1 c
                refine p_ald (cc3 c86_88) rfl ?_
                obtain ⟨g3, h⟩ := h
                refine p_getp (cc3 c86_89) g1 rfl g3 ?_
                obtain ⟨g4, h⟩ := h
                refine p_geti (cc3 c86_92) g4 rfl ?_
                exact p_ri (cc3 c86_95) trivial h
              · have h := h.2 c
                refine p_ald (cc3 c86_96) rfl ?_
                obtain ⟨g3, h⟩ := h
                refine p_getp (cc3 c86_97) g1 rfl g3 ?_
                obtain ⟨g4, h⟩ := h
                refine p_geti (cc3 c86_100) g4 rfl ?_
                exact p_ri (cc3 c86_103) trivial h
    · have h := h.2 c
      refine p_lc (ls' := []) c86_19 rfl rfl ?_
      refine p_push (cct c86_19 rfl) ?_
      exact p_ri (cc3 c86_21) trivial h
theorem B86_5n {ev : xV} {Q : Option Value → xM → Prop} {sz sl : Nat} {K L : Nat → Nat} {κ : Nat → Nat → Int32} {ρ : Nat → Nat → Nat} {x1 x2 : Int32} {a0 : Nat} (h : Q (some (.int ((-2)))) (Mm sz sl K L κ ρ)) : wpE (xT 86) ev Q (5, [(0, .ref a0), (1, .int x1), (2, .int x2)], [.null], Mm sz sl K L κ ρ) := by
  refine p_astN (ls' := [(3, .null), (0, .ref a0), (1, .int x1), (2, .int x2)]) (cc3 c86_5) (by decide) rfl ?_
  refine p_aldN (cc3 c86_6) rfl ?_
  refine p_ifnN (cc3 c86_7) ?_
  refine p_lc (ls' := []) c86_19 rfl rfl ?_
  refine p_push (cct c86_19 rfl) ?_
  exact p_ri (cc3 c86_21) trivial h
theorem B87_0 {ev : xV} {Q : Option Value → xM → Prop} {sz sl : Nat} {K L : Nat → Nat} {κ : Nat → Nat → Int32} {ρ : Nat → Nat → Nat} {x1 x2 x3 : Int32} {a0 : Nat} (h : ((K a0 = 12) ∧ ∃ v : Value, ∃ κ' ρ', ev 66 [.ref a0, .int x1] (Mm sz sl K L κ ρ) (some (v)) (Mm sz sl K L κ' ρ') ∧ wpE (xT 87) ev Q (5, [(0, .ref a0), (1, .int x1), (2, .int x2), (3, .int x3)], [v], Mm sz sl K L κ' ρ'))) : wpE (xT 87) ev Q (0, [(0, .ref a0), (1, .int x1), (2, .int x2), (3, .int x3)], [], Mm sz sl K L κ ρ) := by
  refine p_ald (cc3 c87_0) rfl ?_
  refine p_ild (cc3 c87_1) rfl ?_
  obtain ⟨g1, h⟩ := h
  obtain ⟨v, κ', ρ', he, h⟩ := h
  exact p_callV (cc3 c87_2) (Nat.le_of_ble_eq_true rfl) rfl rfl (Nat.le_of_ble_eq_true rfl) g1 he h
theorem B87_5 {ev : xV} {Q : Option Value → xM → Prop} {sz sl : Nat} {K L : Nat → Nat} {κ : Nat → Nat → Int32} {ρ : Nat → Nat → Nat} {x1 x2 x3 : Int32} {a0 b0 : Nat} (h : ((x2 < 0) → Q (some (.int ((-2)))) (Mm sz sl K L κ ρ)) ∧ (¬ (x2 < 0) → (K b0 = 3) ∧ (((κ b0 4) ≤ x2) → Q (some (.int ((-2)))) (Mm sz sl K L κ ρ)) ∧ (¬ ((κ b0 4) ≤ x2) → ((x3 < 0) → Q (some (.int ((-2)))) (Mm sz sl K L κ ρ)) ∧ (¬ (x3 < 0) → ((x3 ≤ 3) → ((x3 = 2) → (∃ r κ' ρ', ev 88 [.ref b0, .int x2] (Mm sz sl K L κ ρ) (some (.int r)) (Mm sz sl K L κ' ρ') ∧ wpE (xT 87) ev Q (48, [(4, .ref b0), (0, .ref a0), (1, .int x1), (2, .int x2), (3, .int x3)], [.int r], Mm sz sl K L κ' ρ'))) ∧ (¬ (x3 = 2) → ((ρ b0 11 = 0) → Q (some (.int ((-3)))) (Mm sz sl K L κ ρ)) ∧ (¬ (ρ b0 11 = 0) → ((x3 = 0) → (¬ ρ b0 10 = 0) ∧ ((K (ρ b0 10) = 5) ∧ ∃ r κ' ρ', ev 89 [.ref (ρ b0 10), .int x2] (Mm sz sl K L κ ρ) (some (.int r)) (Mm sz sl K L κ' ρ') ∧ wpE (xT 87) ev Q (97, [(4, .ref b0), (0, .ref a0), (1, .int x1), (2, .int x2), (3, .int x3)], [.int r], Mm sz sl K L κ' ρ'))) ∧ (¬ (x3 = 0) → ((x3 = 1) → (¬ ρ b0 10 = 0) ∧ ((K (ρ b0 10) = 5) ∧ ∃ r κ' ρ', ev 90 [.ref (ρ b0 10), .int x2] (Mm sz sl K L κ ρ) (some (.int r)) (Mm sz sl K L κ' ρ') ∧ wpE (xT 87) ev Q (107, [(4, .ref b0), (0, .ref a0), (1, .int x1), (2, .int x2), (3, .int x3)], [.int r], Mm sz sl K L κ' ρ'))) ∧ (¬ (x3 = 1) → (¬ ρ b0 10 = 0) ∧ ((K (ρ b0 10) = 5) ∧ ∃ r κ' ρ', ev 91 [.ref (ρ b0 10), .int x2] (Mm sz sl K L κ ρ) (some (.int r)) (Mm sz sl K L κ' ρ') ∧ wpE (xT 87) ev Q (117, [(4, .ref b0), (0, .ref a0), (1, .int x1), (2, .int x2), (3, .int x3)], [.int r], Mm sz sl K L κ' ρ'))))))) ∧ (¬ (x3 ≤ 3) → Q (some (.int ((-2)))) (Mm sz sl K L κ ρ)))))) : wpE (xT 87) ev Q (5, [(0, .ref a0), (1, .int x1), (2, .int x2), (3, .int x3)], [.ref b0], Mm sz sl K L κ ρ) := by
  refine p_ast (ls' := [(4, .ref b0), (0, .ref a0), (1, .int x1), (2, .int x2), (3, .int x3)]) (cc3 c87_5) (by decide) rfl ?_
  refine p_ald (cc3 c87_7) rfl ?_
  refine p_ifnR (cc3 c87_9) ?_
  refine p_ild (cc3 c87_12) rfl ?_
  refine p_if (cc3 c87_13) (fun c => ?_) (fun c => ?_)
  · have h := h.1 c
    refine p_lc (ls' := []) c87_34 rfl rfl ?_
    refine p_push (cct c87_34 rfl) ?_
    exact p_ri (cc3 c87_36) trivial h
  · have h := h.2 c
    refine p_ild (cc3 c87_16) rfl ?_
    refine p_ald (cc3 c87_17) rfl ?_
    obtain ⟨g1, h⟩ := h
    refine p_geti (cc3 c87_19) g1 rfl ?_
    refine p_icmp (cc3 c87_22) (fun c => ?_) (fun c => ?_)
    · have h := h.1 c
      refine p_lc (ls' := []) c87_34 rfl rfl ?_
      refine p_push (cct c87_34 rfl) ?_
      exact p_ri (cc3 c87_36) trivial h
    · have h := h.2 c
      refine p_ild (cc3 c87_25) rfl ?_
      refine p_if (cc3 c87_26) (fun c => ?_) (fun c => ?_)
      · have h := h.1 c
        refine p_lc (ls' := []) c87_34 rfl rfl ?_
        refine p_push (cct c87_34 rfl) ?_
        exact p_ri (cc3 c87_36) trivial h
      · have h := h.2 c
        refine p_ild (cc3 c87_29) rfl ?_
        refine p_push (cc3 c87_30) ?_
        refine p_icmp (cc3 c87_31) (fun c => ?_) (fun c => ?_)
        · have h := h.1 c
          refine p_ild (cc3 c87_37) rfl ?_
          refine p_push (cc3 c87_38) ?_
          refine p_icmp (cc3 c87_39) (fun c => ?_) (fun c => ?_)
          · have h := h.1 c
            refine p_ald (cc3 c87_42) rfl ?_
            refine p_ild (cc3 c87_44) rfl ?_
            obtain ⟨r, κ', ρ', he, h⟩ := h
            exact p_callV (cc3 c87_45) (Nat.le_of_ble_eq_true rfl) rfl rfl (Nat.le_of_ble_eq_true rfl) g1 he h
          · have h := h.2 c
            refine p_ald (cc3 c87_49) rfl ?_
            by_cases cz1 : ρ b0 11 = 0
            · have h := h.1 cz1
              refine p_getzN (cc3 c87_51) g1 cz1 ?_
              refine p_ifnN (cc3 c87_54) ?_
              refine p_push (cc3 c87_57) ?_
              exact p_ri (cc3 c87_59) trivial h
            · have h := h.2 cz1
              refine p_getz (cc3 c87_51) g1 rfl cz1 ?_
              refine p_ifnR (cc3 c87_54) ?_
              refine p_ild (cc3 c87_60) rfl ?_
              refine p_sw (cc3 c87_61) ?_
              refine ⟨fun c => ?_, fun c => ?_⟩
              · have h := h.1 c
                refine p_ald (cc3 c87_88) rfl ?_
                obtain ⟨g3, h⟩ := h
                refine p_getp (cc3 c87_90) g1 rfl g3 ?_
                refine p_ild (cc3 c87_93) rfl ?_
                obtain ⟨g4, h⟩ := h
                obtain ⟨r, κ', ρ', he, h⟩ := h
                exact p_callV (cc3 c87_94) (Nat.le_of_ble_eq_true rfl) rfl rfl (Nat.le_of_ble_eq_true rfl) g4 he h
              · have h := h.2 c
                refine ⟨fun c => ?_, fun c => ?_⟩
                · have h := h.1 c
                  refine p_ald (cc3 c87_98) rfl ?_
                  obtain ⟨g3, h⟩ := h
                  refine p_getp (cc3 c87_100) g1 rfl g3 ?_
                  refine p_ild (cc3 c87_103) rfl ?_
                  obtain ⟨g4, h⟩ := h
                  obtain ⟨r, κ', ρ', he, h⟩ := h
                  exact p_callV (cc3 c87_104) (Nat.le_of_ble_eq_true rfl) rfl rfl (Nat.le_of_ble_eq_true rfl) g4 he h
                · have h := h.2 c
                  refine p_ald (cc3 c87_108) rfl ?_
                  obtain ⟨g3, h⟩ := h
                  refine p_getp (cc3 c87_110) g1 rfl g3 ?_
                  refine p_ild (cc3 c87_113) rfl ?_
                  obtain ⟨g4, h⟩ := h
                  obtain ⟨r, κ', ρ', he, h⟩ := h
                  exact p_callV (cc3 c87_114) (Nat.le_of_ble_eq_true rfl) rfl rfl (Nat.le_of_ble_eq_true rfl) g4 he h
        · have h := h.2 c
          refine p_lc (ls' := []) c87_34 rfl rfl ?_
          refine p_push (cct c87_34 rfl) ?_
          exact p_ri (cc3 c87_36) trivial h
theorem B87_5n {ev : xV} {Q : Option Value → xM → Prop} {sz sl : Nat} {K L : Nat → Nat} {κ : Nat → Nat → Int32} {ρ : Nat → Nat → Nat} {x1 x2 x3 : Int32} {a0 : Nat} (h : Q (some (.int ((-2)))) (Mm sz sl K L κ ρ)) : wpE (xT 87) ev Q (5, [(0, .ref a0), (1, .int x1), (2, .int x2), (3, .int x3)], [.null], Mm sz sl K L κ ρ) := by
  refine p_astN (ls' := [(4, .null), (0, .ref a0), (1, .int x1), (2, .int x2), (3, .int x3)]) (cc3 c87_5) (by decide) rfl ?_
  refine p_aldN (cc3 c87_7) rfl ?_
  refine p_ifnN (cc3 c87_9) ?_
  refine p_lc (ls' := []) c87_34 rfl rfl ?_
  refine p_push (cct c87_34 rfl) ?_
  exact p_ri (cc3 c87_36) trivial h
theorem B87_48 {ev : xV} {Q : Option Value → xM → Prop} {sz sl : Nat} {K L : Nat → Nat} {κ : Nat → Nat → Int32} {ρ : Nat → Nat → Nat} {x1 x2 x3 s0 : Int32} {a4 a0 : Nat} (h : Q (some (.int s0)) (Mm sz sl K L κ ρ)) : wpE (xT 87) ev Q (48, [(4, .ref a4), (0, .ref a0), (1, .int x1), (2, .int x2), (3, .int x3)], [.int s0], Mm sz sl K L κ ρ) := by
  exact p_ri (cc3 c87_48) trivial h
theorem B87_97 {ev : xV} {Q : Option Value → xM → Prop} {sz sl : Nat} {K L : Nat → Nat} {κ : Nat → Nat → Int32} {ρ : Nat → Nat → Nat} {x1 x2 x3 s0 : Int32} {a4 a0 : Nat} (h : Q (some (.int s0)) (Mm sz sl K L κ ρ)) : wpE (xT 87) ev Q (97, [(4, .ref a4), (0, .ref a0), (1, .int x1), (2, .int x2), (3, .int x3)], [.int s0], Mm sz sl K L κ ρ) := by
  exact p_ri (cc3 c87_97) trivial h
theorem B87_107 {ev : xV} {Q : Option Value → xM → Prop} {sz sl : Nat} {K L : Nat → Nat} {κ : Nat → Nat → Int32} {ρ : Nat → Nat → Nat} {x1 x2 x3 s0 : Int32} {a4 a0 : Nat} (h : Q (some (.int s0)) (Mm sz sl K L κ ρ)) : wpE (xT 87) ev Q (107, [(4, .ref a4), (0, .ref a0), (1, .int x1), (2, .int x2), (3, .int x3)], [.int s0], Mm sz sl K L κ ρ) := by
  exact p_ri (cc3 c87_107) trivial h
theorem B87_117 {ev : xV} {Q : Option Value → xM → Prop} {sz sl : Nat} {K L : Nat → Nat} {κ : Nat → Nat → Int32} {ρ : Nat → Nat → Nat} {x1 x2 x3 s0 : Int32} {a4 a0 : Nat} (h : (K a4 = 3) ∧ (¬ ρ a4 10 = 0) ∧ ((K (ρ a4 10) = 5) ∧ ∃ r κ' ρ', ev 89 [.ref (ρ a4 10), .int x2] (Mm sz sl K L κ ρ) (some (.int r)) (Mm sz sl K L κ' ρ') ∧ wpE (xT 87) ev Q (126, [(4, .ref a4), (0, .ref a0), (1, .int x1), (2, .int x2), (3, .int x3)], [.int r, .int s0], Mm sz sl K L κ' ρ'))) : wpE (xT 87) ev Q (117, [(4, .ref a4), (0, .ref a0), (1, .int x1), (2, .int x2), (3, .int x3)], [.int s0], Mm sz sl K L κ ρ) := by
  refine p_ald (cc3 c87_117) rfl ?_
  obtain ⟨g1, h⟩ := h
  obtain ⟨g2, h⟩ := h
  refine p_getp (cc3 c87_119) g1 rfl g2 ?_
  refine p_ild (cc3 c87_122) rfl ?_
  obtain ⟨g3, h⟩ := h
  obtain ⟨r, κ', ρ', he, h⟩ := h
  exact p_callV (cc3 c87_123) (Nat.le_of_ble_eq_true rfl) rfl rfl (Nat.le_of_ble_eq_true rfl) g3 he h
theorem B87_126 {ev : xV} {Q : Option Value → xM → Prop} {sz sl : Nat} {K L : Nat → Nat} {κ : Nat → Nat → Int32} {ρ : Nat → Nat → Nat} {x1 x2 x3 s0 s1 : Int32} {a4 a0 : Nat} (h : (K a4 = 3) ∧ Q (some (.int ((s1 - s0) - (κ a4 13)))) (Mm sz sl K L κ ρ)) : wpE (xT 87) ev Q (126, [(4, .ref a4), (0, .ref a0), (1, .int x1), (2, .int x2), (3, .int x3)], [.int s0, .int s1], Mm sz sl K L κ ρ) := by
  refine p_bin (cc3 c87_126) ?_
  refine p_ald (cc3 c87_127) rfl ?_
  obtain ⟨g1, h⟩ := h
  refine p_geti (cc3 c87_129) g1 rfl ?_
  refine p_bin (cc3 c87_132) ?_
  exact p_ri (cc3 c87_133) trivial h
theorem B88_0 {ev : xV} {Q : Option Value → xM → Prop} {sz sl : Nat} {K L : Nat → Nat} {κ : Nat → Nat → Int32} {ρ : Nat → Nat → Nat} {x1 : Int32} {a0 : Nat} (h : (K a0 = 3) ∧ ((1 ≤ (κ a0 4)) → (¬ (κ a0 4) = 0) ∧ (¬ (κ a0 4) = 0) ∧ Q (some (.int ((((x1 + 1) * (κ a0 8)) / (κ a0 4)) - ((x1 * (κ a0 8)) / (κ a0 4))))) (Mm sz sl K L κ ρ)) ∧ (¬ (1 ≤ (κ a0 4)) → Q (some (.int 0)) (Mm sz sl K L κ ρ))) : wpE (xT 88) ev Q (0, [(0, .ref a0), (1, .int x1)], [], Mm sz sl K L κ ρ) := by
  refine p_ald (cc3 c88_0) rfl ?_
  obtain ⟨g1, h⟩ := h
  refine p_geti (cc3 c88_1) g1 rfl ?_
  refine p_push (cc3 c88_4) ?_
  refine p_icmp (cc3 c88_5) (fun c => ?_) (fun c => ?_)
  · have h := h.1 c
    refine p_ild (cc3 c88_12) rfl ?_
    refine p_push (cc3 c88_13) ?_
    refine p_bin (cc3 c88_14) ?_
    refine p_ald (cc3 c88_15) rfl ?_
    refine p_geti (cc3 c88_16) g1 rfl ?_
    refine p_bin (cc3 c88_19) ?_
    refine p_ald (cc3 c88_20) rfl ?_
    refine p_geti (cc3 c88_21) g1 rfl ?_
    obtain ⟨g, h⟩ := h
    refine p_div (cc3 c88_24) g ?_
    refine p_ild (cc3 c88_25) rfl ?_
    refine p_ald (cc3 c88_26) rfl ?_
    refine p_geti (cc3 c88_27) g1 rfl ?_
    refine p_bin (cc3 c88_30) ?_
    refine p_ald (cc3 c88_31) rfl ?_
    refine p_geti (cc3 c88_32) g1 rfl ?_
    obtain ⟨g, h⟩ := h
    refine p_div (cc3 c88_35) g ?_
    refine p_bin (cc3 c88_36) ?_
    refine p_lc (ls' := []) c88_37 rfl rfl ?_
    exact p_ri (cct c88_37 rfl) trivial h
  · have h := h.2 c
    refine p_push (cc3 c88_8) ?_
    refine p_goto (cc3 c88_9) ?_
    refine p_lc (ls' := []) c88_37 rfl rfl ?_
    exact p_ri (cct c88_37 rfl) trivial h
theorem B89_0 {ev : xV} {Q : Option Value → xM → Prop} {sz sl : Nat} {K L : Nat → Nat} {κ : Nat → Nat → Int32} {ρ : Nat → Nat → Nat} {x1 : Int32} {a0 : Nat} (h : ((x1 < 0) → (K a0 = 5) ∧ Q (some (.int (κ a0 3))) (Mm sz sl K L κ ρ)) ∧ (¬ (x1 < 0) → (K a0 = 5) ∧ (¬ ρ a0 0 = 0) ∧ (K (ρ a0 0) = 20) ∧ ((x1 < (Int32.ofNat (L (ρ a0 0)))) → (vp_in x1 (L (ρ a0 0))) ∧ Q (some (.int (κ (ρ a0 0) x1.toNatClampNeg))) (Mm sz sl K L κ ρ)) ∧ (¬ (x1 < (Int32.ofNat (L (ρ a0 0)))) → Q (some (.int (κ a0 3))) (Mm sz sl K L κ ρ)))) : wpE (xT 89) ev Q (0, [(0, .ref a0), (1, .int x1)], [], Mm sz sl K L κ ρ) := by
  refine p_ild (cc3 c89_0) rfl ?_
  refine p_if (cc3 c89_1) (fun c => ?_) (fun c => ?_)
  · have h := h.1 c
    refine p_lc (ls' := [(0, .ref a0)]) c89_13 rfl rfl ?_
    refine p_ald (cct c89_13 rfl) rfl ?_
    obtain ⟨g1, h⟩ := h
    refine p_geti (cc3 c89_14) g1 rfl ?_
    refine p_goto (cc3 c89_17) ?_
    refine p_lc (ls' := []) c89_26 rfl rfl ?_
    exact p_ri (cct c89_26 rfl) trivial h
  · have h := h.2 c
    refine p_ild (cc3 c89_4) rfl ?_
    refine p_ald (cc3 c89_5) rfl ?_
    obtain ⟨g1, h⟩ := h
    obtain ⟨g2, h⟩ := h
    refine p_getp (cc3 c89_6) g1 rfl g2 ?_
    obtain ⟨g3, h⟩ := h
    refine p_len (cc3 c89_9) g3 rfl ?_
    refine p_icmp (cc3 c89_10) (fun c => ?_) (fun c => ?_)
    · have h := h.1 c
      refine p_ald (cc3 c89_20) rfl ?_
      refine p_getp (cc3 c89_21) g1 rfl g2 ?_
      refine p_ild (cc3 c89_24) rfl ?_
      obtain ⟨g4, h⟩ := h
      refine p_aldi (cc3 c89_25) g3 g4 rfl ?_
      refine p_lc (ls' := []) c89_26 rfl rfl ?_
      exact p_ri (cct c89_26 rfl) trivial h
    · have h := h.2 c
      refine p_lc (ls' := [(0, .ref a0)]) c89_13 rfl rfl ?_
      refine p_ald (cct c89_13 rfl) rfl ?_
      refine p_geti (cc3 c89_14) g1 rfl ?_
      refine p_goto (cc3 c89_17) ?_
      refine p_lc (ls' := []) c89_26 rfl rfl ?_
      exact p_ri (cct c89_26 rfl) trivial h
theorem B90_0 {ev : xV} {Q : Option Value → xM → Prop} {sz sl : Nat} {K L : Nat → Nat} {κ : Nat → Nat → Int32} {ρ : Nat → Nat → Nat} {x1 : Int32} {a0 : Nat} (h : ((x1 < 0) → Q (some (.int ((-1)))) (Mm sz sl K L κ ρ)) ∧ (¬ (x1 < 0) → (K a0 = 5) ∧ (¬ ρ a0 1 = 0) ∧ (K (ρ a0 1) = 20) ∧ ((x1 < ((Int32.ofNat (L (ρ a0 1))) - 1)) → (vp_in x1 (L (ρ a0 1))) ∧ Q (some (.int (κ (ρ a0 1) x1.toNatClampNeg))) (Mm sz sl K L κ ρ)) ∧ (¬ (x1 < ((Int32.ofNat (L (ρ a0 1))) - 1)) → Q (some (.int ((-1)))) (Mm sz sl K L κ ρ)))) : wpE (xT 90) ev Q (0, [(0, .ref a0), (1, .int x1)], [], Mm sz sl K L κ ρ) := by
  refine p_ild (cc3 c90_0) rfl ?_
  refine p_if (cc3 c90_1) (fun c => ?_) (fun c => ?_)
  · have h := h.1 c
    refine p_lc (ls' := []) c90_15 rfl rfl ?_
    refine p_push (cct c90_15 rfl) ?_
    refine p_goto (cc3 c90_16) ?_
    exact p_ri (cct c90_25 rfl) trivial h
  · have h := h.2 c
    refine p_ild (cc3 c90_4) rfl ?_
    refine p_ald (cc3 c90_5) rfl ?_
    obtain ⟨g1, h⟩ := h
    obtain ⟨g2, h⟩ := h
    refine p_getp (cc3 c90_6) g1 rfl g2 ?_
    obtain ⟨g3, h⟩ := h
    refine p_len (cc3 c90_9) g3 rfl ?_
    refine p_push (cc3 c90_10) ?_
    refine p_bin (cc3 c90_11) ?_
    refine p_icmp (cc3 c90_12) (fun c => ?_) (fun c => ?_)
    · have h := h.1 c
      refine p_ald (cc3 c90_19) rfl ?_
      refine p_getp (cc3 c90_20) g1 rfl g2 ?_
      refine p_ild (cc3 c90_23) rfl ?_
      obtain ⟨g4, h⟩ := h
      refine p_aldi (cc3 c90_24) g3 g4 rfl ?_
      refine p_lc (ls' := []) c90_25 rfl rfl ?_
      exact p_ri (cct c90_25 rfl) trivial h
    · have h := h.2 c
      refine p_lc (ls' := []) c90_15 rfl rfl ?_
      refine p_push (cct c90_15 rfl) ?_
      refine p_goto (cc3 c90_16) ?_
      exact p_ri (cct c90_25 rfl) trivial h
theorem B91_0 {ev : xV} {Q : Option Value → xM → Prop} {sz sl : Nat} {K L : Nat → Nat} {κ : Nat → Nat → Int32} {ρ : Nat → Nat → Nat} {x1 : Int32} {a0 : Nat} (h : ((K a0 = 5) ∧ ∃ r κ' ρ', ev 89 [.ref a0, .int (x1 + 1)] (Mm sz sl K L κ ρ) (some (.int r)) (Mm sz sl K L κ' ρ') ∧ wpE (xT 91) ev Q (7, [(0, .ref a0), (1, .int x1)], [.int r], Mm sz sl K L κ' ρ'))) : wpE (xT 91) ev Q (0, [(0, .ref a0), (1, .int x1)], [], Mm sz sl K L κ ρ) := by
  refine p_ald (cc3 c91_0) rfl ?_
  refine p_ild (cc3 c91_1) rfl ?_
  refine p_push (cc3 c91_2) ?_
  refine p_bin (cc3 c91_3) ?_
  obtain ⟨g1, h⟩ := h
  obtain ⟨r, κ', ρ', he, h⟩ := h
  exact p_callV (cc3 c91_4) (Nat.le_of_ble_eq_true rfl) rfl rfl (Nat.le_of_ble_eq_true rfl) g1 he h
theorem B91_7 {ev : xV} {Q : Option Value → xM → Prop} {sz sl : Nat} {K L : Nat → Nat} {κ : Nat → Nat → Int32} {ρ : Nat → Nat → Nat} {x1 s0 : Int32} {a0 : Nat} (h : Q (some (.int s0)) (Mm sz sl K L κ ρ)) : wpE (xT 91) ev Q (7, [(0, .ref a0), (1, .int x1)], [.int s0], Mm sz sl K L κ ρ) := by
  exact p_ri (cc3 c91_7) trivial h
theorem B92_0 {ev : xV} {Q : Option Value → xM → Prop} {sz sl : Nat} {K L : Nat → Nat} {κ : Nat → Nat → Int32} {ρ : Nat → Nat → Nat} {x1 x2 x3 : Int32} {a0 : Nat} (h : ((K a0 = 12) ∧ ∃ v : Value, ∃ κ' ρ', ev 66 [.ref a0, .int x1] (Mm sz sl K L κ ρ) (some (v)) (Mm sz sl K L κ' ρ') ∧ wpE (xT 92) ev Q (5, [(0, .ref a0), (1, .int x1), (2, .int x2), (3, .int x3)], [v], Mm sz sl K L κ' ρ'))) : wpE (xT 92) ev Q (0, [(0, .ref a0), (1, .int x1), (2, .int x2), (3, .int x3)], [], Mm sz sl K L κ ρ) := by
  refine p_ald (cc3 c92_0) rfl ?_
  refine p_ild (cc3 c92_1) rfl ?_
  obtain ⟨g1, h⟩ := h
  obtain ⟨v, κ', ρ', he, h⟩ := h
  exact p_callV (cc3 c92_2) (Nat.le_of_ble_eq_true rfl) rfl rfl (Nat.le_of_ble_eq_true rfl) g1 he h
theorem B92_5 {ev : xV} {Q : Option Value → xM → Prop} {sz sl : Nat} {K L : Nat → Nat} {κ : Nat → Nat → Int32} {ρ : Nat → Nat → Nat} {x1 x2 x3 : Int32} {a0 b0 : Nat} (h : (K b0 = 3) ∧ ((ρ b0 11 = 0) → Q (some (.int ((-3)))) (Mm sz sl K L κ ρ)) ∧ (¬ (ρ b0 11 = 0) → (∃ r κ' ρ', ev 93 [.ref b0, .int x3] (Mm sz sl K L κ ρ) (some (.int r)) (Mm sz sl K L κ' ρ') ∧ wpE (xT 92) ev Q (32, [(4, .ref b0), (0, .ref a0), (1, .int x1), (2, .int x2), (3, .int x3)], [.int r], Mm sz sl K L κ' ρ')))) : wpE (xT 92) ev Q (5, [(0, .ref a0), (1, .int x1), (2, .int x2), (3, .int x3)], [.ref b0], Mm sz sl K L κ ρ) := by
  refine p_ast (ls' := [(4, .ref b0), (0, .ref a0), (1, .int x1), (2, .int x2), (3, .int x3)]) (cc3 c92_5) (by decide) rfl ?_
  refine p_ald (cc3 c92_7) rfl ?_
  refine p_ifnR (cc3 c92_9) ?_
  refine p_ald (cc3 c92_15) rfl ?_
  obtain ⟨g1, h⟩ := h
  by_cases cz1 : ρ b0 11 = 0
  · have h := h.1 cz1
    refine p_getzN (cc3 c92_17) g1 cz1 ?_
    refine p_ifnN (cc3 c92_20) ?_
    refine p_push (cc3 c92_23) ?_
    exact p_ri (cc3 c92_25) trivial h
  · have h := h.2 cz1
    refine p_getz (cc3 c92_17) g1 rfl cz1 ?_
    refine p_ifnR (cc3 c92_20) ?_
    refine p_ald (cc3 c92_26) rfl ?_
    refine p_ild (cc3 c92_28) rfl ?_
    obtain ⟨r, κ', ρ', he, h⟩ := h
    exact p_callV (cc3 c92_29) (Nat.le_of_ble_eq_true rfl) rfl rfl (Nat.le_of_ble_eq_true rfl) g1 he h
theorem B92_5n {ev : xV} {Q : Option Value → xM → Prop} {sz sl : Nat} {K L : Nat → Nat} {κ : Nat → Nat → Int32} {ρ : Nat → Nat → Nat} {x1 x2 x3 : Int32} {a0 : Nat} (h : Q (some (.int ((-2)))) (Mm sz sl K L κ ρ)) : wpE (xT 92) ev Q (5, [(0, .ref a0), (1, .int x1), (2, .int x2), (3, .int x3)], [.null], Mm sz sl K L κ ρ) := by
  refine p_astN (ls' := [(4, .null), (0, .ref a0), (1, .int x1), (2, .int x2), (3, .int x3)]) (cc3 c92_5) (by decide) rfl ?_
  refine p_aldN (cc3 c92_7) rfl ?_
  refine p_ifnN (cc3 c92_9) ?_
  refine p_push (cc3 c92_12) ?_
  exact p_ri (cc3 c92_14) trivial h
theorem B92_32 {ev : xV} {Q : Option Value → xM → Prop} {sz sl : Nat} {K L : Nat → Nat} {κ : Nat → Nat → Int32} {ρ : Nat → Nat → Nat} {x1 x2 x3 s0 : Int32} {a4 a0 : Nat} (h : ((x2 < 0) → Q (some (.int ((-1)))) (Mm sz sl K L κ ρ)) ∧ (¬ (x2 < 0) → ((x2 < s0) → (K a4 = 3) ∧ ((ρ a4 11 = 0) → False) ∧ (¬ (ρ a4 11 = 0) → (K (ρ a4 11) = 1) ∧ (¬ ρ (ρ a4 11) 0 = 0) ∧ (((κ a4 14) = 0) → (∃ r κ' ρ', ev 94 [.ref a4, .int x2, .int x3] (Mm sz sl K L κ ρ) (some (.int r)) (Mm sz sl K L κ' ρ') ∧ wpE (xT 92) ev Q (78, [(3, .int x3)], [.int r, .ref (ρ (ρ a4 11) 0)], Mm sz sl K L κ' ρ'))) ∧ (¬ ((κ a4 14) = 0) → (∃ r κ' ρ', ev 94 [.ref a4, .int ((s0 - 1) - x2), .int x3] (Mm sz sl K L κ ρ) (some (.int r)) (Mm sz sl K L κ' ρ') ∧ wpE (xT 92) ev Q (78, [(3, .int x3)], [.int r, .ref (ρ (ρ a4 11) 0)], Mm sz sl K L κ' ρ'))))) ∧ (¬ (x2 < s0) → Q (some (.int ((-1)))) (Mm sz sl K L κ ρ)))) : wpE (xT 92) ev Q (32, [(4, .ref a4), (0, .ref a0), (1, .int x1), (2, .int x2), (3, .int x3)], [.int s0], Mm sz sl K L κ ρ) := by
  refine p_ist (ls' := [(5, .int s0), (4, .ref a4), (0, .ref a0), (1, .int x1), (2, .int x2), (3, .int x3)]) (cc3 c92_32) (by decide) rfl ?_
  refine p_ild (cc3 c92_34) rfl ?_
  refine p_if (cc3 c92_35) (fun c => ?_) (fun c => ?_)
  · have h := h.1 c
    refine p_lc (ls' := []) c92_44 rfl rfl ?_
    refine p_push (cct c92_44 rfl) ?_
    exact p_ri (cc3 c92_45) trivial h
  · have h := h.2 c
    refine p_ild (cc3 c92_38) rfl ?_
    refine p_ild (cc3 c92_39) rfl ?_
    refine p_icmp (cc3 c92_41) (fun c => ?_) (fun c => ?_)
    · have h := h.1 c
      refine p_ald (cc3 c92_46) rfl ?_
      obtain ⟨g1, h⟩ := h
      by_cases cz1 : ρ a4 11 = 0
      · have h := h.1 cz1
        refine p_getzN (cc3 c92_48) g1 cz1 ?_
        exact h.elim
      · have h := h.2 cz1
        refine p_getz (cc3 c92_48) g1 rfl cz1 ?_
        obtain ⟨g3, h⟩ := h
        obtain ⟨g4, h⟩ := h
        refine p_getp (cc3 c92_51) g3 rfl g4 ?_
        refine p_ald (cc3 c92_54) rfl ?_
        refine p_ald (cc3 c92_56) rfl ?_
        refine p_geti (cc3 c92_58) g1 rfl ?_
        refine p_if (cc3 c92_61) (fun c => ?_) (fun c => ?_)
        · have h := h.1 c
          refine p_ild (cc3 c92_73) rfl ?_
          refine p_lc (ls' := [(3, .int x3)]) c92_74 rfl rfl ?_
          refine p_ild (cct c92_74 rfl) rfl ?_
          obtain ⟨r, κ', ρ', he, h⟩ := h
          exact p_callV (cc3 c92_75) (Nat.le_of_ble_eq_true rfl) rfl rfl (Nat.le_of_ble_eq_true rfl) g1 he h
        · have h := h.2 c
          refine p_ild (cc3 c92_64) rfl ?_
          refine p_push (cc3 c92_66) ?_
          refine p_bin (cc3 c92_67) ?_
          refine p_ild (cc3 c92_68) rfl ?_
          refine p_bin (cc3 c92_69) ?_
          refine p_goto (cc3 c92_70) ?_
          refine p_lc (ls' := [(3, .int x3)]) c92_74 rfl rfl ?_
          refine p_ild (cct c92_74 rfl) rfl ?_
          obtain ⟨r, κ', ρ', he, h⟩ := h
          exact p_callV (cc3 c92_75) (Nat.le_of_ble_eq_true rfl) rfl rfl (Nat.le_of_ble_eq_true rfl) g1 he h
    · have h := h.2 c
      refine p_lc (ls' := []) c92_44 rfl rfl ?_
      refine p_push (cct c92_44 rfl) ?_
      exact p_ri (cc3 c92_45) trivial h
theorem B92_78 {ev : xV} {Q : Option Value → xM → Prop} {sz sl : Nat} {K L : Nat → Nat} {κ : Nat → Nat → Int32} {ρ : Nat → Nat → Nat} {x3 s0 : Int32} {b1 : Nat} (h : ((K b1 = 6) ∧ ∃ r κ' ρ', ev 50 [.ref b1, .int s0] (Mm sz sl K L κ ρ) (some (.int r)) (Mm sz sl K L κ' ρ') ∧ wpE (xT 92) ev Q (81, [(3, .int x3)], [.int r], Mm sz sl K L κ' ρ'))) : wpE (xT 92) ev Q (78, [(3, .int x3)], [.int s0, .ref b1], Mm sz sl K L κ ρ) := by
  obtain ⟨g1, h⟩ := h
  obtain ⟨r, κ', ρ', he, h⟩ := h
  exact p_callV (cc3 c92_78) (Nat.le_of_ble_eq_true rfl) rfl rfl (Nat.le_of_ble_eq_true rfl) g1 he h
theorem B92_81 {ev : xV} {Q : Option Value → xM → Prop} {sz sl : Nat} {K L : Nat → Nat} {κ : Nat → Nat → Int32} {ρ : Nat → Nat → Nat} {x3 s0 : Int32} (h : Q (some (.int s0)) (Mm sz sl K L κ ρ)) : wpE (xT 92) ev Q (81, [(3, .int x3)], [.int s0], Mm sz sl K L κ ρ) := by
  exact p_ri (cc3 c92_81) trivial h
theorem B93_0 {ev : xV} {Q : Option Value → xM → Prop} {sz sl : Nat} {K L : Nat → Nat} {κ : Nat → Nat → Int32} {ρ : Nat → Nat → Nat} {x1 : Int32} {a0 : Nat} (h : ((x1 = 0) → (K a0 = 3) ∧ Q (some (.int ((κ a0 4) * (κ a0 13)))) (Mm sz sl K L κ ρ)) ∧ (¬ (x1 = 0) → (K a0 = 3) ∧ Q (some (.int (((κ a0 4) * (κ a0 13)) - (κ a0 8)))) (Mm sz sl K L κ ρ))) : wpE (xT 93) ev Q (0, [(0, .ref a0), (1, .int x1)], [], Mm sz sl K L κ ρ) := by
  refine p_ild (cc3 c93_0) rfl ?_
  refine p_if (cc3 c93_1) (fun c => ?_) (fun c => ?_)
  · have h := h.1 c
    refine p_ald (cc3 c93_21) rfl ?_
    obtain ⟨g1, h⟩ := h
    refine p_geti (cc3 c93_22) g1 rfl ?_
    refine p_ald (cc3 c93_25) rfl ?_
    refine p_geti (cc3 c93_26) g1 rfl ?_
    refine p_bin (cc3 c93_29) ?_
    refine p_lc (ls' := []) c93_30 rfl rfl ?_
    exact p_ri (cct c93_30 rfl) trivial h
  · have h := h.2 c
    refine p_ald (cc3 c93_4) rfl ?_
    obtain ⟨g1, h⟩ := h
    refine p_geti (cc3 c93_5) g1 rfl ?_
    refine p_ald (cc3 c93_8) rfl ?_
    refine p_geti (cc3 c93_9) g1 rfl ?_
    refine p_bin (cc3 c93_12) ?_
    refine p_ald (cc3 c93_13) rfl ?_
    refine p_geti (cc3 c93_14) g1 rfl ?_
    refine p_bin (cc3 c93_17) ?_
    refine p_goto (cc3 c93_18) ?_
    refine p_lc (ls' := []) c93_30 rfl rfl ?_
    exact p_ri (cct c93_30 rfl) trivial h
theorem B94_0 {ev : xV} {Q : Option Value → xM → Prop} {sz sl : Nat} {K L : Nat → Nat} {κ : Nat → Nat → Int32} {ρ : Nat → Nat → Nat} {x1 x2 : Int32} {a0 : Nat} (h : wpE (xT 94) ev Q (5, [(0, .ref a0), (2, .int x2), (3, .int x1), (4, .int 0)], [], Mm sz sl K L κ ρ)) : wpE (xT 94) ev Q (0, [(0, .ref a0), (1, .int x1), (2, .int x2)], [], Mm sz sl K L κ ρ) := by
  refine p_ild (cc3 c94_0) rfl ?_
  refine p_ist (ls' := [(3, .int x1), (0, .ref a0), (1, .int x1), (2, .int x2)]) (cc3 c94_1) (by decide) rfl ?_
  refine p_push (cc3 c94_2) ?_
  refine p_ist (ls' := [(4, .int 0), (3, .int x1), (0, .ref a0), (1, .int x1), (2, .int x2)]) (cc3 c94_3) (by decide) rfl ?_
  exact p_lc (ls' := [(0, .ref a0), (2, .int x2), (3, .int x1), (4, .int 0)]) c94_5 rfl rfl h
theorem B94_5 {ev : xV} {Q : Option Value → xM → Prop} {sz sl : Nat} {K L : Nat → Nat} {κ : Nat → Nat → Int32} {ρ : Nat → Nat → Nat} {x2 x3 x4 : Int32} {a0 : Nat} (h : (K a0 = 3) ∧ (((κ a0 4) ≤ x4) → Q (some (.int ((-1)))) (Mm sz sl K L κ ρ)) ∧ (¬ ((κ a0 4) ≤ x4) → ((x2 = 0) → wpE (xT 94) ev Q (28, [(0, .ref a0), (2, .int x2), (3, .int x3), (4, .int x4)], [.int 0], Mm sz sl K L κ ρ)) ∧ (¬ (x2 = 0) → (∃ r κ' ρ', ev 88 [.ref a0, .int x4] (Mm sz sl K L κ ρ) (some (.int r)) (Mm sz sl K L κ' ρ') ∧ wpE (xT 94) ev Q (24, [(0, .ref a0), (2, .int x2), (3, .int x3), (4, .int x4)], [.int r], Mm sz sl K L κ' ρ'))))) : wpE (xT 94) ev Q (5, [(0, .ref a0), (2, .int x2), (3, .int x3), (4, .int x4)], [], Mm sz sl K L κ ρ) := by
  refine p_ild (cct c94_5 rfl) rfl ?_
  refine p_ald (cc3 c94_7) rfl ?_
  obtain ⟨g1, h⟩ := h
  refine p_geti (cc3 c94_8) g1 rfl ?_
  refine p_icmp (cc3 c94_11) (fun c => ?_) (fun c => ?_)
  · have h := h.1 c
    refine p_push (cc3 c94_73) ?_
    exact p_ri (cc3 c94_74) trivial h
  · have h := h.2 c
    refine p_ild (cc3 c94_14) rfl ?_
    refine p_if (cc3 c94_15) (fun c => ?_) (fun c => ?_)
    · have h := h.1 c
      refine p_push (cc3 c94_27) ?_
      exact h
    · have h := h.2 c
      refine p_ald (cc3 c94_18) rfl ?_
      refine p_ild (cc3 c94_19) rfl ?_
      obtain ⟨r, κ', ρ', he, h⟩ := h
      exact p_callV (cc3 c94_21) (Nat.le_of_ble_eq_true rfl) rfl rfl (Nat.le_of_ble_eq_true rfl) g1 he h
theorem B94_24 {ev : xV} {Q : Option Value → xM → Prop} {sz sl : Nat} {K L : Nat → Nat} {κ : Nat → Nat → Int32} {ρ : Nat → Nat → Nat} {x2 x3 x4 s0 : Int32} {a0 : Nat} (h : wpE (xT 94) ev Q (28, [(0, .ref a0), (2, .int x2), (3, .int x3), (4, .int x4)], [.int s0], Mm sz sl K L κ ρ)) : wpE (xT 94) ev Q (24, [(0, .ref a0), (2, .int x2), (3, .int x3), (4, .int x4)], [.int s0], Mm sz sl K L κ ρ) := by
  refine p_goto (cc3 c94_24) ?_
  exact h
theorem B94_28 {ev : xV} {Q : Option Value → xM → Prop} {sz sl : Nat} {K L : Nat → Nat} {κ : Nat → Nat → Int32} {ρ : Nat → Nat → Nat} {x2 x3 x4 s0 : Int32} {a0 : Nat} (h : (K a0 = 3) ∧ ((((κ a0 13) - s0) ≤ x3) → wpE (xT 94) ev Q (5, [(0, .ref a0), (2, .int x2), (3, .int (x3 - ((κ a0 13) - s0))), (4, .int (x4 + 1))], [], Mm sz sl K L κ ρ)) ∧ (¬ (((κ a0 13) - s0) ≤ x3) → (¬ ρ a0 10 = 0) ∧ ((K (ρ a0 10) = 5) ∧ ∃ r κ' ρ', ev 89 [.ref (ρ a0 10), .int x4] (Mm sz sl K L κ ρ) (some (.int r)) (Mm sz sl K L κ' ρ') ∧ wpE (xT 94) ev Q (54, [(6, .int ((κ a0 13) - s0)), (5, .int s0), (0, .ref a0), (2, .int x2), (3, .int x3), (4, .int x4)], [.int r], Mm sz sl K L κ' ρ')))) : wpE (xT 94) ev Q (28, [(0, .ref a0), (2, .int x2), (3, .int x3), (4, .int x4)], [.int s0], Mm sz sl K L κ ρ) := by
  refine p_ist (ls' := [(5, .int s0), (0, .ref a0), (2, .int x2), (3, .int x3), (4, .int x4)]) (cct c94_28 rfl) (by decide) rfl ?_
  refine p_ald (cc3 c94_30) rfl ?_
  obtain ⟨g1, h⟩ := h
  refine p_geti (cc3 c94_31) g1 rfl ?_
  refine p_ild (cc3 c94_34) rfl ?_
  refine p_bin (cc3 c94_36) ?_
  refine p_ist (ls' := [(6, .int ((κ a0 13) - s0)), (5, .int s0), (0, .ref a0), (2, .int x2), (3, .int x3), (4, .int x4)]) (cc3 c94_37) (by decide) rfl ?_
  refine p_ild (cc3 c94_39) rfl ?_
  refine p_ild (cc3 c94_40) rfl ?_
  refine p_icmp (cc3 c94_42) (fun c => ?_) (fun c => ?_)
  · have h := h.1 c
    refine p_ild (cc3 c94_62) rfl ?_
    refine p_ild (cc3 c94_63) rfl ?_
    refine p_bin (cc3 c94_65) ?_
    refine p_ist (ls' := [(3, .int (x3 - ((κ a0 13) - s0))), (6, .int ((κ a0 13) - s0)), (5, .int s0), (0, .ref a0), (2, .int x2), (4, .int x4)]) (cc3 c94_66) (by decide) rfl ?_
    refine p_iinc (y := x4 + 1) (ls' := [(4, .int (x4 + 1)), (3, .int (x3 - ((κ a0 13) - s0))), (6, .int ((κ a0 13) - s0)), (5, .int s0), (0, .ref a0), (2, .int x2)]) (cc3 c94_67) (by decide) rfl rfl rfl ?_
    refine p_goto (cc3 c94_70) ?_
    exact p_lc (ls' := [(0, .ref a0), (2, .int x2), (3, .int (x3 - ((κ a0 13) - s0))), (4, .int (x4 + 1))]) c94_5 rfl rfl h
  · have h := h.2 c
    refine p_ald (cc3 c94_45) rfl ?_
    obtain ⟨g2, h⟩ := h
    refine p_getp (cc3 c94_46) g1 rfl g2 ?_
    refine p_ild (cc3 c94_49) rfl ?_
    obtain ⟨g3, h⟩ := h
    obtain ⟨r, κ', ρ', he, h⟩ := h
    exact p_callV (cc3 c94_51) (Nat.le_of_ble_eq_true rfl) rfl rfl (Nat.le_of_ble_eq_true rfl) g3 he h
theorem B94_54 {ev : xV} {Q : Option Value → xM → Prop} {sz sl : Nat} {K L : Nat → Nat} {κ : Nat → Nat → Int32} {ρ : Nat → Nat → Nat} {x6 x5 x2 x3 x4 s0 : Int32} {a0 : Nat} (h : Q (some (.int ((s0 + (x5 / 2)) + x3))) (Mm sz sl K L κ ρ)) : wpE (xT 94) ev Q (54, [(6, .int x6), (5, .int x5), (0, .ref a0), (2, .int x2), (3, .int x3), (4, .int x4)], [.int s0], Mm sz sl K L κ ρ) := by
  refine p_ild (cc3 c94_54) rfl ?_
  refine p_push (cc3 c94_56) ?_
  refine p_div (cc3 c94_57) (by decide) ?_
  refine p_bin (cc3 c94_58) ?_
  refine p_ild (cc3 c94_59) rfl ?_
  refine p_bin (cc3 c94_60) ?_
  exact p_ri (cc3 c94_61) trivial h
theorem B95_0 {ev : xV} {Q : Option Value → xM → Prop} {sz sl : Nat} {K L : Nat → Nat} {κ : Nat → Nat → Int32} {ρ : Nat → Nat → Nat} {x1 x2 : Int32} {a0 : Nat} (h : ((K a0 = 12) ∧ ∃ v : Value, ∃ κ' ρ', ev 66 [.ref a0, .int x1] (Mm sz sl K L κ ρ) (some (v)) (Mm sz sl K L κ' ρ') ∧ wpE (xT 95) ev Q (5, [(0, .ref a0), (1, .int x1), (2, .int x2)], [v], Mm sz sl K L κ' ρ'))) : wpE (xT 95) ev Q (0, [(0, .ref a0), (1, .int x1), (2, .int x2)], [], Mm sz sl K L κ ρ) := by
  refine p_ald (cc3 c95_0) rfl ?_
  refine p_ild (cc3 c95_1) rfl ?_
  obtain ⟨g1, h⟩ := h
  obtain ⟨v, κ', ρ', he, h⟩ := h
  exact p_callV (cc3 c95_2) (Nat.le_of_ble_eq_true rfl) rfl rfl (Nat.le_of_ble_eq_true rfl) g1 he h
theorem B95_5 {ev : xV} {Q : Option Value → xM → Prop} {sz sl : Nat} {K L : Nat → Nat} {κ : Nat → Nat → Int32} {ρ : Nat → Nat → Nat} {x1 x2 : Int32} {a0 b0 : Nat} (h : (K b0 = 3) ∧ ((ρ b0 11 = 0) → Q (some (.int ((-3)))) (Mm sz sl K L κ ρ)) ∧ (¬ (ρ b0 11 = 0) → (∃ r κ' ρ', ev 93 [.ref b0, .int x2] (Mm sz sl K L κ ρ) (some (.int r)) (Mm sz sl K L κ' ρ') ∧ wpE (xT 95) ev Q (30, [], [.int r], Mm sz sl K L κ' ρ')))) : wpE (xT 95) ev Q (5, [(0, .ref a0), (1, .int x1), (2, .int x2)], [.ref b0], Mm sz sl K L κ ρ) := by
  refine p_ast (ls' := [(3, .ref b0), (0, .ref a0), (1, .int x1), (2, .int x2)]) (cc3 c95_5) (by decide) rfl ?_
  refine p_ald (cc3 c95_6) rfl ?_
  refine p_ifnR (cc3 c95_7) ?_
  refine p_ald (cc3 c95_13) rfl ?_
  obtain ⟨g1, h⟩ := h
  by_cases cz1 : ρ b0 11 = 0
  · have h := h.1 cz1
    refine p_getzN (cc3 c95_14) g1 cz1 ?_
    refine p_ifnN (cc3 c95_17) ?_
    refine p_push (cc3 c95_20) ?_
    refine p_goto (cc3 c95_22) ?_
    refine p_lc (ls' := []) c95_30 rfl rfl ?_
    exact p_ri (cct c95_30 rfl) trivial h
  · have h := h.2 cz1
    refine p_getz (cc3 c95_14) g1 rfl cz1 ?_
    refine p_ifnR (cc3 c95_17) ?_
    refine p_ald (cc3 c95_25) rfl ?_
    refine p_ild (cc3 c95_26) rfl ?_
    obtain ⟨r, κ', ρ', he, h⟩ := h
    exact p_callV (cc3 c95_27) (Nat.le_of_ble_eq_true rfl) rfl rfl (Nat.le_of_ble_eq_true rfl) g1 he (p_lc (ls' := []) c95_30 rfl rfl h)
theorem B95_5n {ev : xV} {Q : Option Value → xM → Prop} {sz sl : Nat} {K L : Nat → Nat} {κ : Nat → Nat → Int32} {ρ : Nat → Nat → Nat} {x1 x2 : Int32} {a0 : Nat} (h : Q (some (.int ((-2)))) (Mm sz sl K L κ ρ)) : wpE (xT 95) ev Q (5, [(0, .ref a0), (1, .int x1), (2, .int x2)], [.null], Mm sz sl K L κ ρ) := by
  refine p_astN (ls' := [(3, .null), (0, .ref a0), (1, .int x1), (2, .int x2)]) (cc3 c95_5) (by decide) rfl ?_
  refine p_aldN (cc3 c95_6) rfl ?_
  refine p_ifnN (cc3 c95_7) ?_
  refine p_push (cc3 c95_10) ?_
  exact p_ri (cc3 c95_12) trivial h
theorem B95_30 {ev : xV} {Q : Option Value → xM → Prop} {sz sl : Nat} {K L : Nat → Nat} {κ : Nat → Nat → Int32} {ρ : Nat → Nat → Nat} {s0 : Int32} (h : Q (some (.int s0)) (Mm sz sl K L κ ρ)) : wpE (xT 95) ev Q (30, [], [.int s0], Mm sz sl K L κ ρ) := by
  exact p_ri (cct c95_30 rfl) trivial h
theorem B96_0 {ev : xV} {Q : Option Value → xM → Prop} {sz sl : Nat} {K L : Nat → Nat} {κ : Nat → Nat → Int32} {ρ : Nat → Nat → Nat} {x1 x2 : Int32} {a0 : Nat} (h : ((K a0 = 12) ∧ ∃ v : Value, ∃ κ' ρ', ev 66 [.ref a0, .int x1] (Mm sz sl K L κ ρ) (some (v)) (Mm sz sl K L κ' ρ') ∧ wpE (xT 96) ev Q (5, [(0, .ref a0), (1, .int x1), (2, .int x2)], [v], Mm sz sl K L κ' ρ'))) : wpE (xT 96) ev Q (0, [(0, .ref a0), (1, .int x1), (2, .int x2)], [], Mm sz sl K L κ ρ) := by
  refine p_ald (cc3 c96_0) rfl ?_
  refine p_ild (cc3 c96_1) rfl ?_
  obtain ⟨g1, h⟩ := h
  obtain ⟨v, κ', ρ', he, h⟩ := h
  exact p_callV (cc3 c96_2) (Nat.le_of_ble_eq_true rfl) rfl rfl (Nat.le_of_ble_eq_true rfl) g1 he h
theorem B96_5 {ev : xV} {Q : Option Value → xM → Prop} {sz sl : Nat} {K L : Nat → Nat} {κ : Nat → Nat → Int32} {ρ : Nat → Nat → Nat} {x1 x2 : Int32} {a0 b0 : Nat} (h : ((x2 < (-20)) → Q (some (.int ((-2)))) (Mm sz sl K L κ ρ)) ∧ (¬ (x2 < (-20)) → ((x2 ≤ 20) → (K b0 = 3) ∧ ((ρ b0 11 = 0) → Q (some (.int ((-3)))) (Mm sz sl K L κ ρ)) ∧ (¬ (ρ b0 11 = 0) → (∃ r κ' ρ', ev 97 [.ref b0, .int ((κ b0 13) + x2)] (Mm sz sl K L κ ρ) (some (.int r)) (Mm sz sl K L κ' ρ') ∧ wpE (xT 96) ev Q (42, [(3, .ref b0), (0, .ref a0), (1, .int x1), (2, .int x2)], [.int r], Mm sz sl K L κ' ρ')))) ∧ (¬ (x2 ≤ 20) → Q (some (.int ((-2)))) (Mm sz sl K L κ ρ)))) : wpE (xT 96) ev Q (5, [(0, .ref a0), (1, .int x1), (2, .int x2)], [.ref b0], Mm sz sl K L κ ρ) := by
  refine p_ast (ls' := [(3, .ref b0), (0, .ref a0), (1, .int x1), (2, .int x2)]) (cc3 c96_5) (by decide) rfl ?_
  refine p_ald (cc3 c96_6) rfl ?_
  refine p_ifnR (cc3 c96_7) ?_
  refine p_ild (cc3 c96_10) rfl ?_
  refine p_push (cc3 c96_11) ?_
  refine p_icmp (cc3 c96_13) (fun c => ?_) (fun c => ?_)
  · have h := h.1 c
    refine p_lc (ls' := []) c96_22 rfl rfl ?_
    refine p_push (cct c96_22 rfl) ?_
    exact p_ri (cc3 c96_24) trivial h
  · have h := h.2 c
    refine p_ild (cc3 c96_16) rfl ?_
    refine p_push (cc3 c96_17) ?_
    refine p_icmp (cc3 c96_19) (fun c => ?_) (fun c => ?_)
    · have h := h.1 c
      refine p_ald (cc3 c96_25) rfl ?_
      obtain ⟨g1, h⟩ := h
      by_cases cz1 : ρ b0 11 = 0
      · have h := h.1 cz1
        refine p_getzN (cc3 c96_26) g1 cz1 ?_
        refine p_ifnN (cc3 c96_29) ?_
        refine p_lc (ls' := []) c96_45 rfl rfl ?_
        refine p_push (cct c96_45 rfl) ?_
        exact p_ri (cc3 c96_47) trivial h
      · have h := h.2 cz1
        refine p_getz (cc3 c96_26) g1 rfl cz1 ?_
        refine p_ifnR (cc3 c96_29) ?_
        refine p_ald (cc3 c96_32) rfl ?_
        refine p_ald (cc3 c96_33) rfl ?_
        refine p_geti (cc3 c96_34) g1 rfl ?_
        refine p_ild (cc3 c96_37) rfl ?_
        refine p_bin (cc3 c96_38) ?_
        obtain ⟨r, κ', ρ', he, h⟩ := h
        exact p_callV (cc3 c96_39) (Nat.le_of_ble_eq_true rfl) rfl rfl (Nat.le_of_ble_eq_true rfl) g1 he h
    · have h := h.2 c
      refine p_lc (ls' := []) c96_22 rfl rfl ?_
      refine p_push (cct c96_22 rfl) ?_
      exact p_ri (cc3 c96_24) trivial h
theorem B96_5n {ev : xV} {Q : Option Value → xM → Prop} {sz sl : Nat} {K L : Nat → Nat} {κ : Nat → Nat → Int32} {ρ : Nat → Nat → Nat} {x1 x2 : Int32} {a0 : Nat} (h : Q (some (.int ((-2)))) (Mm sz sl K L κ ρ)) : wpE (xT 96) ev Q (5, [(0, .ref a0), (1, .int x1), (2, .int x2)], [.null], Mm sz sl K L κ ρ) := by
  refine p_astN (ls' := [(3, .null), (0, .ref a0), (1, .int x1), (2, .int x2)]) (cc3 c96_5) (by decide) rfl ?_
  refine p_aldN (cc3 c96_6) rfl ?_
  refine p_ifnN (cc3 c96_7) ?_
  refine p_lc (ls' := []) c96_22 rfl rfl ?_
  refine p_push (cct c96_22 rfl) ?_
  exact p_ri (cc3 c96_24) trivial h
theorem B96_42 {ev : xV} {Q : Option Value → xM → Prop} {sz sl : Nat} {K L : Nat → Nat} {κ : Nat → Nat → Int32} {ρ : Nat → Nat → Nat} {x1 x2 s0 : Int32} {a3 a0 : Nat} (h : ((s0 = 0) → Q (some (.int ((-3)))) (Mm sz sl K L κ ρ)) ∧ (¬ (s0 = 0) → (K a3 = 3) ∧ Q (some (.int ((U κ a3 13 ((κ a3 13) + x2)) a3 13))) (Mm sz sl K L (U κ a3 13 ((κ a3 13) + x2)) ρ))) : wpE (xT 96) ev Q (42, [(3, .ref a3), (0, .ref a0), (1, .int x1), (2, .int x2)], [.int s0], Mm sz sl K L κ ρ) := by
  refine p_if (cc3 c96_42) (fun c => ?_) (fun c => ?_)
  · have h := h.1 c
    refine p_lc (ls' := []) c96_45 rfl rfl ?_
    refine p_push (cct c96_45 rfl) ?_
    exact p_ri (cc3 c96_47) trivial h
  · have h := h.2 c
    refine p_ald (cc3 c96_48) rfl ?_
    refine p_dup (cc3 c96_49) rfl ?_
    obtain ⟨g1, h⟩ := h
    refine p_geti (cc3 c96_50) g1 rfl ?_
    refine p_ild (cc3 c96_53) rfl ?_
    refine p_bin (cc3 c96_54) ?_
    refine p_puti (cc3 c96_55) g1 mm_xpi ?_
    refine p_ald (cc3 c96_58) rfl ?_
    refine p_geti (cc3 c96_59) g1 rfl ?_
    exact p_ri (cc3 c96_62) trivial h
theorem B97_0 {ev : xV} {Q : Option Value → xM → Prop} {sz sl : Nat} {K L : Nat → Nat} {κ : Nat → Nat → Int32} {ρ : Nat → Nat → Nat} {x1 : Int32} {a0 : Nat} (h : (K a0 = 3) ∧ ((ρ a0 11 = 0) → Q (some (.int 0)) (Mm sz sl K L κ ρ)) ∧ (¬ (ρ a0 11 = 0) → ((x1 < 1) → Q (some (.int 0)) (Mm sz sl K L κ ρ)) ∧ (¬ (x1 < 1) → ((x1 ≤ 999) → wpE (xT 97) ev Q (23, [(0, .ref a0), (1, .int x1), (2, .int 0)], [], Mm sz sl K L κ ρ)) ∧ (¬ (x1 ≤ 999) → Q (some (.int 0)) (Mm sz sl K L κ ρ))))) : wpE (xT 97) ev Q (0, [(0, .ref a0), (1, .int x1)], [], Mm sz sl K L κ ρ) := by
  refine p_ald (cc3 c97_0) rfl ?_
  obtain ⟨g1, h⟩ := h
  by_cases cz1 : ρ a0 11 = 0
  · have h := h.1 cz1
    refine p_getzN (cc3 c97_1) g1 cz1 ?_
    refine p_ifnN (cc3 c97_4) ?_
    refine p_lc (ls' := []) c97_19 rfl rfl ?_
    refine p_push (cct c97_19 rfl) ?_
    exact p_ri (cc3 c97_20) (by decide) h
  · have h := h.2 cz1
    refine p_getz (cc3 c97_1) g1 rfl cz1 ?_
    refine p_ifnR (cc3 c97_4) ?_
    refine p_ild (cc3 c97_7) rfl ?_
    refine p_push (cc3 c97_8) ?_
    refine p_icmp (cc3 c97_9) (fun c => ?_) (fun c => ?_)
    · have h := h.1 c
      refine p_lc (ls' := []) c97_19 rfl rfl ?_
      refine p_push (cct c97_19 rfl) ?_
      exact p_ri (cc3 c97_20) (by decide) h
    · have h := h.2 c
      refine p_ild (cc3 c97_12) rfl ?_
      refine p_push (cc3 c97_13) ?_
      refine p_icmp (cc3 c97_16) (fun c => ?_) (fun c => ?_)
      · have h := h.1 c
        refine p_push (cc3 c97_21) ?_
        refine p_ist (ls' := [(2, .int 0), (0, .ref a0), (1, .int x1)]) (cc3 c97_22) (by decide) rfl ?_
        exact p_lc (ls' := [(0, .ref a0), (1, .int x1), (2, .int 0)]) c97_23 rfl rfl h
      · have h := h.2 c
        refine p_lc (ls' := []) c97_19 rfl rfl ?_
        refine p_push (cct c97_19 rfl) ?_
        exact p_ri (cc3 c97_20) (by decide) h
theorem B97_23 {ev : xV} {Q : Option Value → xM → Prop} {sz sl : Nat} {K L : Nat → Nat} {κ : Nat → Nat → Int32} {ρ : Nat → Nat → Nat} {x1 x2 : Int32} {a0 : Nat} (h : (K a0 = 3) ∧ (((κ a0 4) ≤ x2) → Q (some (.int 1)) (Mm sz sl K L κ ρ)) ∧ (¬ ((κ a0 4) ≤ x2) → (¬ ρ a0 10 = 0) ∧ ((K (ρ a0 10) = 5) ∧ ∃ r κ' ρ', ev 89 [.ref (ρ a0 10), .int x2] (Mm sz sl K L κ ρ) (some (.int r)) (Mm sz sl K L κ' ρ') ∧ wpE (xT 97) ev Q (39, [(0, .ref a0), (1, .int x1), (2, .int x2)], [.int r], Mm sz sl K L κ' ρ')))) : wpE (xT 97) ev Q (23, [(0, .ref a0), (1, .int x1), (2, .int x2)], [], Mm sz sl K L κ ρ) := by
  refine p_ild (cct c97_23 rfl) rfl ?_
  refine p_ald (cc3 c97_24) rfl ?_
  obtain ⟨g1, h⟩ := h
  refine p_geti (cc3 c97_25) g1 rfl ?_
  refine p_icmp (cc3 c97_28) (fun c => ?_) (fun c => ?_)
  · have h := h.1 c
    refine p_push (cc3 c97_83) ?_
    exact p_ri (cc3 c97_84) (by decide) h
  · have h := h.2 c
    refine p_ald (cc3 c97_31) rfl ?_
    obtain ⟨g2, h⟩ := h
    refine p_getp (cc3 c97_32) g1 rfl g2 ?_
    refine p_ild (cc3 c97_35) rfl ?_
    obtain ⟨g3, h⟩ := h
    obtain ⟨r, κ', ρ', he, h⟩ := h
    exact p_callV (cc3 c97_36) (Nat.le_of_ble_eq_true rfl) rfl rfl (Nat.le_of_ble_eq_true rfl) g3 he h
theorem B97_39 {ev : xV} {Q : Option Value → xM → Prop} {sz sl : Nat} {K L : Nat → Nat} {κ : Nat → Nat → Int32} {ρ : Nat → Nat → Nat} {x1 x2 s0 : Int32} {a0 : Nat} (h : ((K a0 = 3) ∧ ∃ r κ' ρ', ev 88 [.ref a0, .int x2] (Mm sz sl K L κ ρ) (some (.int r)) (Mm sz sl K L κ' ρ') ∧ wpE (xT 97) ev Q (46, [(3, .int s0), (0, .ref a0), (1, .int x1), (2, .int x2)], [.int r, .int x1], Mm sz sl K L κ' ρ'))) : wpE (xT 97) ev Q (39, [(0, .ref a0), (1, .int x1), (2, .int x2)], [.int s0], Mm sz sl K L κ ρ) := by
  refine p_ist (ls' := [(3, .int s0), (0, .ref a0), (1, .int x1), (2, .int x2)]) (cc3 c97_39) (by decide) rfl ?_
  refine p_ild (cc3 c97_40) rfl ?_
  refine p_ald (cc3 c97_41) rfl ?_
  refine p_ild (cc3 c97_42) rfl ?_
  obtain ⟨g1, h⟩ := h
  obtain ⟨r, κ', ρ', he, h⟩ := h
  exact p_callV (cc3 c97_43) (Nat.le_of_ble_eq_true rfl) rfl rfl (Nat.le_of_ble_eq_true rfl) g1 he h
theorem B97_46 {ev : xV} {Q : Option Value → xM → Prop} {sz sl : Nat} {K L : Nat → Nat} {κ : Nat → Nat → Int32} {ρ : Nat → Nat → Nat} {x3 x1 x2 s0 s1 : Int32} {a0 : Nat} (h : ((s1 ≤ s0) → Q (some (.int 0)) (Mm sz sl K L κ ρ)) ∧ (¬ (s1 ≤ s0) → (K a0 = 3) ∧ (¬ ρ a0 10 = 0) ∧ ((K (ρ a0 10) = 5) ∧ ∃ r κ' ρ', ev 91 [.ref (ρ a0 10), .int x2] (Mm sz sl K L κ ρ) (some (.int r)) (Mm sz sl K L κ' ρ') ∧ wpE (xT 97) ev Q (60, [(3, .int x3), (0, .ref a0), (1, .int x1), (2, .int x2)], [.int r, .int (x3 + x1)], Mm sz sl K L κ' ρ')))) : wpE (xT 97) ev Q (46, [(3, .int x3), (0, .ref a0), (1, .int x1), (2, .int x2)], [.int s0, .int s1], Mm sz sl K L κ ρ) := by
  refine p_icmp (cc3 c97_46) (fun c => ?_) (fun c => ?_)
  · have h := h.1 c
    refine p_lc (ls' := []) c97_75 rfl rfl ?_
    refine p_push (cct c97_75 rfl) ?_
    exact p_ri (cc3 c97_76) (by decide) h
  · have h := h.2 c
    refine p_ild (cc3 c97_49) rfl ?_
    refine p_ild (cc3 c97_50) rfl ?_
    refine p_bin (cc3 c97_51) ?_
    refine p_ald (cc3 c97_52) rfl ?_
    obtain ⟨g1, h⟩ := h
    obtain ⟨g2, h⟩ := h
    refine p_getp (cc3 c97_53) g1 rfl g2 ?_
    refine p_ild (cc3 c97_56) rfl ?_
    obtain ⟨g3, h⟩ := h
    obtain ⟨r, κ', ρ', he, h⟩ := h
    exact p_callV (cc3 c97_57) (Nat.le_of_ble_eq_true rfl) rfl rfl (Nat.le_of_ble_eq_true rfl) g3 he h
theorem B97_60 {ev : xV} {Q : Option Value → xM → Prop} {sz sl : Nat} {K L : Nat → Nat} {κ : Nat → Nat → Int32} {ρ : Nat → Nat → Nat} {x3 x1 x2 s0 s1 : Int32} {a0 : Nat} (h : ((s0 < s1) → Q (some (.int 0)) (Mm sz sl K L κ ρ)) ∧ (¬ (s0 < s1) → (K a0 = 3) ∧ ((ρ a0 11 = 0) → False) ∧ (¬ (ρ a0 11 = 0) → ((K (ρ a0 11) = 1) ∧ ∃ r κ' ρ', ev 56 [.ref (ρ a0 11), .int x3, .int x1] (Mm sz sl K L κ ρ) (some (.int r)) (Mm sz sl K L κ' ρ') ∧ wpE (xT 97) ev Q (72, [(3, .int x3), (0, .ref a0), (1, .int x1), (2, .int x2)], [.int r], Mm sz sl K L κ' ρ'))))) : wpE (xT 97) ev Q (60, [(3, .int x3), (0, .ref a0), (1, .int x1), (2, .int x2)], [.int s0, .int s1], Mm sz sl K L κ ρ) := by
  refine p_icmp (cc3 c97_60) (fun c => ?_) (fun c => ?_)
  · have h := h.1 c
    refine p_lc (ls' := []) c97_75 rfl rfl ?_
    refine p_push (cct c97_75 rfl) ?_
    exact p_ri (cc3 c97_76) (by decide) h
  · have h := h.2 c
    refine p_ald (cc3 c97_63) rfl ?_
    obtain ⟨g1, h⟩ := h
    by_cases cz1 : ρ a0 11 = 0
    · have h := h.1 cz1
      refine p_getzN (cc3 c97_64) g1 cz1 ?_
      refine p_ild (cc3 c97_67) rfl ?_
      refine p_ild (cc3 c97_68) rfl ?_
      exact h.elim
    · have h := h.2 cz1
      refine p_getz (cc3 c97_64) g1 rfl cz1 ?_
      refine p_ild (cc3 c97_67) rfl ?_
      refine p_ild (cc3 c97_68) rfl ?_
      obtain ⟨g3, h⟩ := h
      obtain ⟨r, κ', ρ', he, h⟩ := h
      exact p_callV (cc3 c97_69) (Nat.le_of_ble_eq_true rfl) rfl rfl (Nat.le_of_ble_eq_true rfl) g3 he h
theorem B97_72 {ev : xV} {Q : Option Value → xM → Prop} {sz sl : Nat} {K L : Nat → Nat} {κ : Nat → Nat → Int32} {ρ : Nat → Nat → Nat} {x3 x1 x2 s0 : Int32} {a0 : Nat} (h : ((s0 = 0) → Q (some (.int 0)) (Mm sz sl K L κ ρ)) ∧ (¬ (s0 = 0) → wpE (xT 97) ev Q (23, [(0, .ref a0), (1, .int x1), (2, .int (x2 + 1))], [], Mm sz sl K L κ ρ))) : wpE (xT 97) ev Q (72, [(3, .int x3), (0, .ref a0), (1, .int x1), (2, .int x2)], [.int s0], Mm sz sl K L κ ρ) := by
  refine p_if (cc3 c97_72) (fun c => ?_) (fun c => ?_)
  · have h := h.1 c
    refine p_lc (ls' := []) c97_75 rfl rfl ?_
    refine p_push (cct c97_75 rfl) ?_
    exact p_ri (cc3 c97_76) (by decide) h
  · have h := h.2 c
    refine p_iinc (y := x2 + 1) (ls' := [(2, .int (x2 + 1)), (3, .int x3), (0, .ref a0), (1, .int x1)]) (cc3 c97_77) (by decide) rfl rfl rfl ?_
    refine p_goto (cc3 c97_80) ?_
    exact p_lc (ls' := [(0, .ref a0), (1, .int x1), (2, .int (x2 + 1))]) c97_23 rfl rfl h
theorem B98_0 {ev : xV} {Q : Option Value → xM → Prop} {sz sl : Nat} {K L : Nat → Nat} {κ : Nat → Nat → Int32} {ρ : Nat → Nat → Nat} {x1 : Int32} {a0 : Nat} (h : ((K a0 = 12) ∧ ∃ v : Value, ∃ κ' ρ', ev 66 [.ref a0, .int x1] (Mm sz sl K L κ ρ) (some (v)) (Mm sz sl K L κ' ρ') ∧ wpE (xT 98) ev Q (5, [(0, .ref a0), (1, .int x1)], [v], Mm sz sl K L κ' ρ'))) : wpE (xT 98) ev Q (0, [(0, .ref a0), (1, .int x1)], [], Mm sz sl K L κ ρ) := by
  refine p_ald (cc3 c98_0) rfl ?_
  refine p_ild (cc3 c98_1) rfl ?_
  obtain ⟨g1, h⟩ := h
  obtain ⟨v, κ', ρ', he, h⟩ := h
  exact p_callV (cc3 c98_2) (Nat.le_of_ble_eq_true rfl) rfl rfl (Nat.le_of_ble_eq_true rfl) g1 he h
theorem B98_5 {ev : xV} {Q : Option Value → xM → Prop} {sz sl : Nat} {K L : Nat → Nat} {κ : Nat → Nat → Int32} {ρ : Nat → Nat → Nat} {x1 : Int32} {a0 b0 : Nat} (h : (K b0 = 3) ∧ ((ρ b0 11 = 0) → Q (some (.int ((-3)))) (Mm sz sl K L κ ρ)) ∧ (¬ (ρ b0 11 = 0) → (((κ b0 14) = 0) → wpE (xT 98) ev Q (36, [(2, .ref b0)], [.int 1, .ref b0], Mm sz sl K L κ ρ)) ∧ (¬ ((κ b0 14) = 0) → wpE (xT 98) ev Q (36, [(2, .ref b0)], [.int 0, .ref b0], Mm sz sl K L κ ρ)))) : wpE (xT 98) ev Q (5, [(0, .ref a0), (1, .int x1)], [.ref b0], Mm sz sl K L κ ρ) := by
  refine p_ast (ls' := [(2, .ref b0), (0, .ref a0), (1, .int x1)]) (cc3 c98_5) (by decide) rfl ?_
  refine p_ald (cc3 c98_6) rfl ?_
  refine p_ifnR (cc3 c98_7) ?_
  refine p_ald (cc3 c98_13) rfl ?_
  obtain ⟨g1, h⟩ := h
  by_cases cz1 : ρ b0 11 = 0
  · have h := h.1 cz1
    refine p_getzN (cc3 c98_14) g1 cz1 ?_
    refine p_ifnN (cc3 c98_17) ?_
    refine p_push (cc3 c98_20) ?_
    exact p_ri (cc3 c98_22) trivial h
  · have h := h.2 cz1
    refine p_getz (cc3 c98_14) g1 rfl cz1 ?_
    refine p_ifnR (cc3 c98_17) ?_
    refine p_ald (cc3 c98_23) rfl ?_
    refine p_ald (cc3 c98_24) rfl ?_
    refine p_geti (cc3 c98_25) g1 rfl ?_
    refine p_if (cc3 c98_28) (fun c => ?_) (fun c => ?_)
    · have h := h.1 c
      refine p_push (cc3 c98_31) ?_
      refine p_goto (cc3 c98_32) ?_
      exact p_lc (ls' := [(2, .ref b0)]) c98_36 rfl rfl h
    · have h := h.2 c
      refine p_push (cc3 c98_35) ?_
      exact p_lc (ls' := [(2, .ref b0)]) c98_36 rfl rfl h
theorem B98_5n {ev : xV} {Q : Option Value → xM → Prop} {sz sl : Nat} {K L : Nat → Nat} {κ : Nat → Nat → Int32} {ρ : Nat → Nat → Nat} {x1 : Int32} {a0 : Nat} (h : Q (some (.int ((-2)))) (Mm sz sl K L κ ρ)) : wpE (xT 98) ev Q (5, [(0, .ref a0), (1, .int x1)], [.null], Mm sz sl K L κ ρ) := by
  refine p_astN (ls' := [(2, .null), (0, .ref a0), (1, .int x1)]) (cc3 c98_5) (by decide) rfl ?_
  refine p_aldN (cc3 c98_6) rfl ?_
  refine p_ifnN (cc3 c98_7) ?_
  refine p_push (cc3 c98_10) ?_
  exact p_ri (cc3 c98_12) trivial h
theorem B98_36 {ev : xV} {Q : Option Value → xM → Prop} {sz sl : Nat} {K L : Nat → Nat} {κ : Nat → Nat → Int32} {ρ : Nat → Nat → Nat} {s0 : Int32} {a2 b1 : Nat} (h : (K b1 = 3) ∧ (s0 = 0 ∨ s0 = 1) ∧ (K a2 = 3) ∧ ((((U κ b1 14 s0) a2 14) = 0) → Q (some (.int 0)) (Mm sz sl K L (U κ b1 14 s0) ρ)) ∧ (¬ (((U κ b1 14 s0) a2 14) = 0) → Q (some (.int 1)) (Mm sz sl K L (U κ b1 14 s0) ρ))) : wpE (xT 98) ev Q (36, [(2, .ref a2)], [.int s0, .ref b1], Mm sz sl K L κ ρ) := by
  obtain ⟨g1, h⟩ := h
  obtain ⟨g2, h⟩ := h
  refine p_putb (cct c98_36 rfl) g1 g2 mm_xpi ?_
  refine p_ald (cc3 c98_39) rfl ?_
  obtain ⟨g3, h⟩ := h
  refine p_geti (cc3 c98_40) g3 rfl ?_
  refine p_if (cc3 c98_43) (fun c => ?_) (fun c => ?_)
  · have h := h.1 c
    refine p_push (cc3 c98_50) ?_
    refine p_lc (ls' := []) c98_51 rfl rfl ?_
    exact p_ri (cct c98_51 rfl) trivial h
  · have h := h.2 c
    refine p_push (cc3 c98_46) ?_
    refine p_goto (cc3 c98_47) ?_
    refine p_lc (ls' := []) c98_51 rfl rfl ?_
    exact p_ri (cct c98_51 rfl) trivial h
