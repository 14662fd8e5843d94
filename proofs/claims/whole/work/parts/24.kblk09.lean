theorem B125_0 {ev : xV} {Q : Option Value → xM → Prop} {sz sl : Nat} {K L : Nat → Nat} {κ : Nat → Nat → Int32} {ρ : Nat → Nat → Nat} {x1 x2 : Int32} {a0 : Nat} (h : ((x2 < 0) → Q (some (.int ((-2)))) (Mm sz sl K L κ ρ)) ∧ (¬ (x2 < 0) → ((x2 < 6) → ((K a0 = 12) ∧ ∃ v : Value, ∃ κ' ρ', ev 66 [.ref a0, .int x1] (Mm sz sl K L κ ρ) (some (v)) (Mm sz sl K L κ' ρ') ∧ wpE (xT 125) ev Q (18, [(0, .ref a0), (1, .int x1), (2, .int x2)], [v], Mm sz sl K L κ' ρ'))) ∧ (¬ (x2 < 6) → Q (some (.int ((-2)))) (Mm sz sl K L κ ρ)))) : wpE (xT 125) ev Q (0, [(0, .ref a0), (1, .int x1), (2, .int x2)], [], Mm sz sl K L κ ρ) := by
  refine p_ild (cc3 c125_0) rfl ?_
  refine p_if (cc3 c125_1) (fun c => ?_) (fun c => ?_)
  · have h := h.1 c
    refine p_lc (ls' := []) c125_10 rfl rfl ?_
    refine p_push (cct c125_10 rfl) ?_
    exact p_ri (cc3 c125_12) trivial h
  · have h := h.2 c
    refine p_ild (cc3 c125_4) rfl ?_
    refine p_push (cc3 c125_5) ?_
    refine p_icmp (cc3 c125_7) (fun c => ?_) (fun c => ?_)
    · have h := h.1 c
      refine p_ald (cc3 c125_13) rfl ?_
      refine p_ild (cc3 c125_14) rfl ?_
      obtain ⟨g1, h⟩ := h
      obtain ⟨v, κ', ρ', he, h⟩ := h
      exact p_callV (cc3 c125_15) (Nat.le_of_ble_eq_true rfl) rfl rfl (Nat.le_of_ble_eq_true rfl) g1 he h
    · have h := h.2 c
      refine p_lc (ls' := []) c125_10 rfl rfl ?_
      refine p_push (cct c125_10 rfl) ?_
      exact p_ri (cc3 c125_12) trivial h
theorem B125_18 {ev : xV} {Q : Option Value → xM → Prop} {sz sl : Nat} {K L : Nat → Nat} {κ : Nat → Nat → Int32} {ρ : Nat → Nat → Nat} {x1 x2 : Int32} {a0 b0 : Nat} (h : (K b0 = 3) ∧ (∃ r κ' ρ', ev 63 [.int (κ b0 0), .int x2] (Mm sz sl K L κ ρ) (some (.int r)) (Mm sz sl K L κ' ρ') ∧ wpE (xT 125) ev Q (34, [(3, .ref b0), (0, .ref a0), (1, .int x1), (2, .int x2)], [.int r], Mm sz sl K L κ' ρ'))) : wpE (xT 125) ev Q (18, [(0, .ref a0), (1, .int x1), (2, .int x2)], [.ref b0], Mm sz sl K L κ ρ) := by
  refine p_ast (ls' := [(3, .ref b0), (0, .ref a0), (1, .int x1), (2, .int x2)]) (cc3 c125_18) (by decide) rfl ?_
  refine p_ald (cc3 c125_19) rfl ?_
  refine p_ifnR (cc3 c125_20) ?_
  refine p_ald (cc3 c125_26) rfl ?_
  obtain ⟨g1, h⟩ := h
  refine p_geti (cc3 c125_27) g1 rfl ?_
  refine p_ild (cc3 c125_30) rfl ?_
  obtain ⟨r, κ', ρ', he, h⟩ := h
  exact p_callS (cc3 c125_31) (Nat.le_of_ble_eq_true rfl) rfl rfl (Nat.le_of_ble_eq_true rfl) he h
theorem B125_18n {ev : xV} {Q : Option Value → xM → Prop} {sz sl : Nat} {K L : Nat → Nat} {κ : Nat → Nat → Int32} {ρ : Nat → Nat → Nat} {x1 x2 : Int32} {a0 : Nat} (h : Q (some (.int ((-11)))) (Mm sz sl K L κ ρ)) : wpE (xT 125) ev Q (18, [(0, .ref a0), (1, .int x1), (2, .int x2)], [.null], Mm sz sl K L κ ρ) := by
  refine p_astN (ls' := [(3, .null), (0, .ref a0), (1, .int x1), (2, .int x2)]) (cc3 c125_18) (by decide) rfl ?_
  refine p_aldN (cc3 c125_19) rfl ?_
  refine p_ifnN (cc3 c125_20) ?_
  refine p_push (cc3 c125_23) ?_
  exact p_ri (cc3 c125_25) trivial h
theorem B125_34 {ev : xV} {Q : Option Value → xM → Prop} {sz sl : Nat} {K L : Nat → Nat} {κ : Nat → Nat → Int32} {ρ : Nat → Nat → Nat} {x1 x2 s0 : Int32} {a3 a0 : Nat} (h : ((s0 = 0) → Q (some (.int ((-13)))) (Mm sz sl K L κ ρ)) ∧ (¬ (s0 = 0) → (K a3 = 3) ∧ Q (some (.int (κ a3 6))) (Mm sz sl K L κ ρ))) : wpE (xT 125) ev Q (34, [(3, .ref a3), (0, .ref a0), (1, .int x1), (2, .int x2)], [.int s0], Mm sz sl K L κ ρ) := by
  refine p_if (cc3 c125_34) (fun c => ?_) (fun c => ?_)
  · have h := h.1 c
    refine p_push (cc3 c125_44) ?_
    refine p_lc (ls' := []) c125_46 rfl rfl ?_
    exact p_ri (cct c125_46 rfl) trivial h
  · have h := h.2 c
    refine p_ald (cc3 c125_37) rfl ?_
    obtain ⟨g1, h⟩ := h
    refine p_geti (cc3 c125_38) g1 rfl ?_
    refine p_goto (cc3 c125_41) ?_
    refine p_lc (ls' := []) c125_46 rfl rfl ?_
    exact p_ri (cct c125_46 rfl) trivial h
