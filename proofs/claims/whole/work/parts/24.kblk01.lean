theorem B22_0 {ev : xV} {Q : Option Value → xM → Prop} {sz sl : Nat} {K L : Nat → Nat} {κ : Nat → Nat → Int32} {ρ : Nat → Nat → Nat} {x0 : Int32} (h : ((x0 = 0) → ∃ z1, (ρ 0 1 = z1 + 1) ∧ Q (some (.ref z1)) (Mm sz sl K L κ ρ)) ∧ (¬ (x0 = 0) → ((x0 = 1) → ∃ z2, (ρ 0 2 = z2 + 1) ∧ Q (some (.ref z2)) (Mm sz sl K L κ ρ)) ∧ (¬ (x0 = 1) → ((x0 = 2) → ∃ z3, (ρ 0 3 = z3 + 1) ∧ Q (some (.ref z3)) (Mm sz sl K L κ ρ)) ∧ (¬ (x0 = 2) → ((x0 = 3) → ∃ z4, (ρ 0 4 = z4 + 1) ∧ Q (some (.ref z4)) (Mm sz sl K L κ ρ)) ∧ (¬ (x0 = 3) → ((x0 = 4) → ∃ z5, (ρ 0 5 = z5 + 1) ∧ Q (some (.ref z5)) (Mm sz sl K L κ ρ)) ∧ (¬ (x0 = 4) → ((x0 = 5) → ∃ z6, (ρ 0 6 = z6 + 1) ∧ Q (some (.ref z6)) (Mm sz sl K L κ ρ)) ∧ (¬ (x0 = 5) → ((x0 = 6) → ∃ z7, (ρ 0 7 = z7 + 1) ∧ Q (some (.ref z7)) (Mm sz sl K L κ ρ)) ∧ (¬ (x0 = 6) → ((x0 = 7) → ∃ z8, (ρ 0 8 = z8 + 1) ∧ Q (some (.ref z8)) (Mm sz sl K L κ ρ)) ∧ (¬ (x0 = 7) → ((x0 = 8) → ∃ z9, (ρ 0 9 = z9 + 1) ∧ Q (some (.ref z9)) (Mm sz sl K L κ ρ)) ∧ (¬ (x0 = 8) → ((x0 = 9) → ∃ z10, (ρ 0 10 = z10 + 1) ∧ Q (some (.ref z10)) (Mm sz sl K L κ ρ)) ∧ (¬ (x0 = 9) → ∃ z11, (ρ 0 11 = z11 + 1) ∧ Q (some (.ref z11)) (Mm sz sl K L κ ρ)))))))))))) : wpE (xT 22) ev Q (0, [(0, .int x0)], [], Mm sz sl K L κ ρ) := by
  refine p_ild (cc3 c22_0) rfl ?_
  refine p_sw (cc3 c22_1) ?_
  refine ⟨fun c => ?_, fun c => ?_⟩
  · have h := h.1 c
    obtain ⟨z1, g, h⟩ := h
    refine p_gref (cc3 c22_56) g ?_
    exact p_ra (cc3 c22_58) h
  · have h := h.2 c
    refine ⟨fun c => ?_, fun c => ?_⟩
    · have h := h.1 c
      obtain ⟨z2, g, h⟩ := h
      refine p_gref (cc3 c22_59) g ?_
      exact p_ra (cc3 c22_61) h
    · have h := h.2 c
      refine ⟨fun c => ?_, fun c => ?_⟩
      · have h := h.1 c
        obtain ⟨z3, g, h⟩ := h
        refine p_gref (cc3 c22_62) g ?_
        exact p_ra (cc3 c22_64) h
      · have h := h.2 c
        refine ⟨fun c => ?_, fun c => ?_⟩
        · have h := h.1 c
          obtain ⟨z4, g, h⟩ := h
          refine p_gref (cc3 c22_65) g ?_
          exact p_ra (cc3 c22_67) h
        · have h := h.2 c
          refine ⟨fun c => ?_, fun c => ?_⟩
          · have h := h.1 c
            obtain ⟨z5, g, h⟩ := h
            refine p_gref (cc3 c22_68) g ?_
            exact p_ra (cc3 c22_70) h
          · have h := h.2 c
            refine ⟨fun c => ?_, fun c => ?_⟩
            · have h := h.1 c
              obtain ⟨z6, g, h⟩ := h
              refine p_gref (cc3 c22_71) g ?_
              exact p_ra (cc3 c22_73) h
            · have h := h.2 c
              refine ⟨fun c => ?_, fun c => ?_⟩
              · have h := h.1 c
                obtain ⟨z7, g, h⟩ := h
                refine p_gref (cc3 c22_74) g ?_
                exact p_ra (cc3 c22_76) h
              · have h := h.2 c
                refine ⟨fun c => ?_, fun c => ?_⟩
                · have h := h.1 c
                  obtain ⟨z8, g, h⟩ := h
                  refine p_gref (cc3 c22_77) g ?_
                  exact p_ra (cc3 c22_79) h
                · have h := h.2 c
                  refine ⟨fun c => ?_, fun c => ?_⟩
                  · have h := h.1 c
                    obtain ⟨z9, g, h⟩ := h
                    refine p_gref (cc3 c22_80) g ?_
                    exact p_ra (cc3 c22_82) h
                  · have h := h.2 c
                    refine ⟨fun c => ?_, fun c => ?_⟩
                    · have h := h.1 c
                      obtain ⟨z10, g, h⟩ := h
                      refine p_gref (cc3 c22_83) g ?_
                      exact p_ra (cc3 c22_85) h
                    · have h := h.2 c
                      obtain ⟨z11, g, h⟩ := h
                      refine p_gref (cc3 c22_86) g ?_
                      exact p_ra (cc3 c22_88) h
theorem B23_0 {ev : xV} {Q : Option Value → xM → Prop} {sz sl : Nat} {K L : Nat → Nat} {κ : Nat → Nat → Int32} {ρ : Nat → Nat → Nat} {a0 a1 : Nat} (h : ((K a1 = 41 ∨ K a1 = 43) ∧ ∃ r κ' ρ', ev 8 [.ref a1] (Mm sz sl K L κ ρ) (some (.int r)) (Mm sz sl K L κ' ρ') ∧ wpE (xT 23) ev Q (4, [(0, .ref a0), (1, .ref a1)], [.int r], Mm sz sl K L κ' ρ'))) : wpE (xT 23) ev Q (0, [(0, .ref a0), (1, .ref a1)], [], Mm sz sl K L κ ρ) := by
  refine p_ald (cc3 c23_0) rfl ?_
  obtain ⟨g1, h⟩ := h
  obtain ⟨r, κ', ρ', he, h⟩ := h
  exact p_callW (cc3 c23_1) (Nat.le_of_ble_eq_true rfl) rfl rfl (Nat.le_of_ble_eq_true rfl) g1 he h
theorem B23_4 {ev : xV} {Q : Option Value → xM → Prop} {sz sl : Nat} {K L : Nat → Nat} {κ : Nat → Nat → Int32} {ρ : Nat → Nat → Nat} {s0 : Int32} {a0 a1 : Nat} (h : (K a0 = 11) ∧ ((s0 = ((κ a0 7) - (κ a0 6))) → wpE (xT 23) ev Q (20, [(0, .ref a0), (1, .ref a1), (2, .int 0)], [], Mm sz sl K L κ ρ)) ∧ (¬ (s0 = ((κ a0 7) - (κ a0 6))) → Q (some (.int 0)) (Mm sz sl K L κ ρ))) : wpE (xT 23) ev Q (4, [(0, .ref a0), (1, .ref a1)], [.int s0], Mm sz sl K L κ ρ) := by
  refine p_ald (cc3 c23_4) rfl ?_
  obtain ⟨g1, h⟩ := h
  refine p_geti (cc3 c23_5) g1 rfl ?_
  refine p_ald (cc3 c23_8) rfl ?_
  refine p_geti (cc3 c23_9) g1 rfl ?_
  refine p_bin (cc3 c23_12) ?_
  refine p_icmp (cc3 c23_13) (fun c => ?_) (fun c => ?_)
  · have h := h.1 c
    refine p_push (cc3 c23_18) ?_
    refine p_ist (ls' := [(2, .int 0), (0, .ref a0), (1, .ref a1)]) (cc3 c23_19) (by decide) rfl ?_
    exact p_lc (ls' := [(0, .ref a0), (1, .ref a1), (2, .int 0)]) c23_20 rfl rfl h
  · have h := h.2 c
    refine p_push (cc3 c23_16) ?_
    exact p_ri (cc3 c23_17) (by decide) h
theorem B23_20 {ev : xV} {Q : Option Value → xM → Prop} {sz sl : Nat} {K L : Nat → Nat} {κ : Nat → Nat → Int32} {ρ : Nat → Nat → Nat} {x2 : Int32} {a0 a1 : Nat} (h : ((K a1 = 41 ∨ K a1 = 43) ∧ ∃ r κ' ρ', ev 8 [.ref a1] (Mm sz sl K L κ ρ) (some (.int r)) (Mm sz sl K L κ' ρ') ∧ wpE (xT 23) ev Q (25, [(0, .ref a0), (1, .ref a1), (2, .int x2)], [.int r, .int x2], Mm sz sl K L κ' ρ'))) : wpE (xT 23) ev Q (20, [(0, .ref a0), (1, .ref a1), (2, .int x2)], [], Mm sz sl K L κ ρ) := by
  refine p_ild (cct c23_20 rfl) rfl ?_
  refine p_ald (cc3 c23_21) rfl ?_
  obtain ⟨g1, h⟩ := h
  obtain ⟨r, κ', ρ', he, h⟩ := h
  exact p_callW (cc3 c23_22) (Nat.le_of_ble_eq_true rfl) rfl rfl (Nat.le_of_ble_eq_true rfl) g1 he h
theorem B23_25 {ev : xV} {Q : Option Value → xM → Prop} {sz sl : Nat} {K L : Nat → Nat} {κ : Nat → Nat → Int32} {ρ : Nat → Nat → Nat} {x2 s0 s1 : Int32} {a0 a1 : Nat} (h : ((s0 ≤ s1) → Q (some (.int 1)) (Mm sz sl K L κ ρ)) ∧ (¬ (s0 ≤ s1) → ((K a1 = 41 ∨ K a1 = 43) ∧ ∃ r κ' ρ', ev 10 [.ref a1, .int x2] (Mm sz sl K L κ ρ) (some (.int r)) (Mm sz sl K L κ' ρ') ∧ wpE (xT 23) ev Q (33, [(0, .ref a0), (1, .ref a1), (2, .int x2)], [.int r], Mm sz sl K L κ' ρ')))) : wpE (xT 23) ev Q (25, [(0, .ref a0), (1, .ref a1), (2, .int x2)], [.int s0, .int s1], Mm sz sl K L κ ρ) := by
  refine p_icmp (cc3 c23_25) (fun c => ?_) (fun c => ?_)
  · have h := h.1 c
    refine p_push (cc3 c23_57) ?_
    exact p_ri (cc3 c23_58) (by decide) h
  · have h := h.2 c
    refine p_ald (cc3 c23_28) rfl ?_
    refine p_ild (cc3 c23_29) rfl ?_
    obtain ⟨g1, h⟩ := h
    obtain ⟨r, κ', ρ', he, h⟩ := h
    exact p_callW (cc3 c23_30) (Nat.le_of_ble_eq_true rfl) rfl rfl (Nat.le_of_ble_eq_true rfl) g1 he h
theorem B23_33 {ev : xV} {Q : Option Value → xM → Prop} {sz sl : Nat} {K L : Nat → Nat} {κ : Nat → Nat → Int32} {ρ : Nat → Nat → Nat} {x2 s0 : Int32} {a0 a1 : Nat} (h : (K a0 = 11) ∧ (¬ ρ a0 3 = 0) ∧ ((K (ρ a0 3) = 9) ∧ ∃ r κ' ρ', ev 18 [.ref (ρ a0 3), .int ((κ a0 6) + x2)] (Mm sz sl K L κ ρ) (some (.int r)) (Mm sz sl K L κ' ρ') ∧ wpE (xT 23) ev Q (46, [(0, .ref a0), (1, .ref a1), (2, .int x2)], [.int r, .int s0], Mm sz sl K L κ' ρ'))) : wpE (xT 23) ev Q (33, [(0, .ref a0), (1, .ref a1), (2, .int x2)], [.int s0], Mm sz sl K L κ ρ) := by
  refine p_ald (cc3 c23_33) rfl ?_
  obtain ⟨g1, h⟩ := h
  obtain ⟨g2, h⟩ := h
  refine p_getp (cc3 c23_34) g1 rfl g2 ?_
  refine p_ald (cc3 c23_37) rfl ?_
  refine p_geti (cc3 c23_38) g1 rfl ?_
  refine p_ild (cc3 c23_41) rfl ?_
  refine p_bin (cc3 c23_42) ?_
  obtain ⟨g3, h⟩ := h
  obtain ⟨r, κ', ρ', he, h⟩ := h
  exact p_callV (cc3 c23_43) (Nat.le_of_ble_eq_true rfl) rfl rfl (Nat.le_of_ble_eq_true rfl) g3 he h
theorem B23_46 {ev : xV} {Q : Option Value → xM → Prop} {sz sl : Nat} {K L : Nat → Nat} {κ : Nat → Nat → Int32} {ρ : Nat → Nat → Nat} {x2 s0 s1 : Int32} {a0 a1 : Nat} (h : ((s1 = s0) → wpE (xT 23) ev Q (20, [(0, .ref a0), (1, .ref a1), (2, .int (x2 + 1))], [], Mm sz sl K L κ ρ)) ∧ (¬ (s1 = s0) → Q (some (.int 0)) (Mm sz sl K L κ ρ))) : wpE (xT 23) ev Q (46, [(0, .ref a0), (1, .ref a1), (2, .int x2)], [.int s0, .int s1], Mm sz sl K L κ ρ) := by
  refine p_icmp (cc3 c23_46) (fun c => ?_) (fun c => ?_)
  · have h := h.1 c
    refine p_iinc (y := x2 + 1) (ls' := [(2, .int (x2 + 1)), (0, .ref a0), (1, .ref a1)]) (cc3 c23_51) (by decide) rfl rfl rfl ?_
    refine p_goto (cc3 c23_54) ?_
    exact p_lc (ls' := [(0, .ref a0), (1, .ref a1), (2, .int (x2 + 1))]) c23_20 rfl rfl h
  · have h := h.2 c
    refine p_push (cc3 c23_49) ?_
    exact p_ri (cc3 c23_50) (by decide) h
theorem B24_0 {ev : xV} {Q : Option Value → xM → Prop} {sz sl : Nat} {K L : Nat → Nat} {κ : Nat → Nat → Int32} {ρ : Nat → Nat → Nat} {x0 : Int32} (h : ((x0 < 48) → Q (some (.int 0)) (Mm sz sl K L κ ρ)) ∧ (¬ (x0 < 48) → ((57 < x0) → Q (some (.int 0)) (Mm sz sl K L κ ρ)) ∧ (¬ (57 < x0) → Q (some (.int 1)) (Mm sz sl K L κ ρ)))) : wpE (xT 24) ev Q (0, [(0, .int x0)], [], Mm sz sl K L κ ρ) := by
  refine p_ild (cc3 c24_0) rfl ?_
  refine p_push (cc3 c24_1) ?_
  refine p_icmp (cc3 c24_3) (fun c => ?_) (fun c => ?_)
  · have h := h.1 c
    refine p_lc (ls' := []) c24_16 rfl rfl ?_
    refine p_push (cct c24_16 rfl) ?_
    exact p_ri (cct c24_17 rfl) (by decide) h
  · have h := h.2 c
    refine p_ild (cc3 c24_6) rfl ?_
    refine p_push (cc3 c24_7) ?_
    refine p_icmp (cc3 c24_9) (fun c => ?_) (fun c => ?_)
    · have h := h.1 c
      refine p_lc (ls' := []) c24_16 rfl rfl ?_
      refine p_push (cct c24_16 rfl) ?_
      exact p_ri (cct c24_17 rfl) (by decide) h
    · have h := h.2 c
      refine p_push (cc3 c24_12) ?_
      refine p_goto (cc3 c24_13) ?_
      refine p_lc (ls' := []) c24_17 rfl rfl ?_
      exact p_ri (cct c24_17 rfl) (by decide) h
theorem B25_0 {ev : xV} {Q : Option Value → xM → Prop} {sz sl : Nat} {K L : Nat → Nat} {κ : Nat → Nat → Int32} {ρ : Nat → Nat → Nat} {a0 : Nat} (h : (K a0 = 11) ∧ ((160 ≤ (κ a0 7)) → wpE (xT 25) ev Q (40, [(0, .ref a0)], [], Mm sz sl K L κ ρ)) ∧ (¬ (160 ≤ (κ a0 7)) → (¬ ρ a0 3 = 0) ∧ ((K (ρ a0 3) = 9) ∧ ∃ r κ' ρ', ev 18 [.ref (ρ a0 3), .int (κ a0 7)] (Mm sz sl K L κ ρ) (some (.int r)) (Mm sz sl K L κ' ρ') ∧ wpE (xT 25) ev Q (21, [(0, .ref a0)], [.int r], Mm sz sl K L κ' ρ')))) : wpE (xT 25) ev Q (0, [(0, .ref a0)], [], Mm sz sl K L κ ρ) := by
  refine p_ald (cct c25_0 rfl) rfl ?_
  obtain ⟨g1, h⟩ := h
  refine p_geti (cc3 c25_1) g1 rfl ?_
  refine p_push (cc3 c25_4) ?_
  refine p_icmp (cc3 c25_7) (fun c => ?_) (fun c => ?_)
  · have h := h.1 c
    exact h
  · have h := h.2 c
    refine p_ald (cc3 c25_10) rfl ?_
    obtain ⟨g2, h⟩ := h
    refine p_getp (cc3 c25_11) g1 rfl g2 ?_
    refine p_ald (cc3 c25_14) rfl ?_
    refine p_geti (cc3 c25_15) g1 rfl ?_
    obtain ⟨g3, h⟩ := h
    obtain ⟨r, κ', ρ', he, h⟩ := h
    exact p_callV (cc3 c25_18) (Nat.le_of_ble_eq_true rfl) rfl rfl (Nat.le_of_ble_eq_true rfl) g3 he h
theorem B25_21 {ev : xV} {Q : Option Value → xM → Prop} {sz sl : Nat} {K L : Nat → Nat} {κ : Nat → Nat → Int32} {ρ : Nat → Nat → Nat} {s0 : Int32} {a0 : Nat} (h : (∃ r κ' ρ', ev 24 [.int s0] (Mm sz sl K L κ ρ) (some (.int r)) (Mm sz sl K L κ' ρ') ∧ wpE (xT 25) ev Q (24, [(0, .ref a0)], [.int r], Mm sz sl K L κ' ρ'))) : wpE (xT 25) ev Q (21, [(0, .ref a0)], [.int s0], Mm sz sl K L κ ρ) := by
  obtain ⟨r, κ', ρ', he, h⟩ := h
  exact p_callS (cc3 c25_21) (Nat.le_of_ble_eq_true rfl) rfl rfl (Nat.le_of_ble_eq_true rfl) he h
theorem B25_24 {ev : xV} {Q : Option Value → xM → Prop} {sz sl : Nat} {K L : Nat → Nat} {κ : Nat → Nat → Int32} {ρ : Nat → Nat → Nat} {s0 : Int32} {a0 : Nat} (h : ((s0 = 0) → wpE (xT 25) ev Q (40, [(0, .ref a0)], [], Mm sz sl K L κ ρ)) ∧ (¬ (s0 = 0) → (K a0 = 11) ∧ wpE (xT 25) ev Q (0, [(0, .ref a0)], [], Mm sz sl K L (U κ a0 7 ((κ a0 7) + 1)) ρ))) : wpE (xT 25) ev Q (24, [(0, .ref a0)], [.int s0], Mm sz sl K L κ ρ) := by
  refine p_if (cc3 c25_24) (fun c => ?_) (fun c => ?_)
  · have h := h.1 c
    exact h
  · have h := h.2 c
    refine p_ald (cc3 c25_27) rfl ?_
    refine p_dup (cc3 c25_28) rfl ?_
    obtain ⟨g1, h⟩ := h
    refine p_geti (cc3 c25_29) g1 rfl ?_
    refine p_push (cc3 c25_32) ?_
    refine p_bin (cc3 c25_33) ?_
    refine p_puti (cc3 c25_34) g1 mm_xpi ?_
    refine p_goto (cc3 c25_37) ?_
    exact h
theorem B25_40 {ev : xV} {Q : Option Value → xM → Prop} {sz sl : Nat} {K L : Nat → Nat} {κ : Nat → Nat → Int32} {ρ : Nat → Nat → Nat} {a0 : Nat} (h : (K a0 = 11) ∧ ((((κ a0 7) - (κ a0 6)) ≤ 4) → wpE (xT 25) ev Q (76, [(0, .ref a0), (1, .int ((U (U κ a0 4 400) a0 5 0) a0 6))], [], Mm sz sl K L (U (U κ a0 4 400) a0 5 0) ρ)) ∧ (¬ (((κ a0 7) - (κ a0 6)) ≤ 4) → wpE (xT 25) ev Q (76, [(0, .ref a0), (1, .int ((U (U κ a0 4 402) a0 5 0) a0 6))], [], Mm sz sl K L (U (U κ a0 4 402) a0 5 0) ρ))) : wpE (xT 25) ev Q (40, [(0, .ref a0)], [], Mm sz sl K L κ ρ) := by
  refine p_ald (cct c25_40 rfl) rfl ?_
  refine p_ald (cc3 c25_41) rfl ?_
  obtain ⟨g1, h⟩ := h
  refine p_geti (cc3 c25_42) g1 rfl ?_
  refine p_ald (cc3 c25_45) rfl ?_
  refine p_geti (cc3 c25_46) g1 rfl ?_
  refine p_bin (cc3 c25_49) ?_
  refine p_push (cc3 c25_50) ?_
  refine p_icmp (cc3 c25_51) (fun c => ?_) (fun c => ?_)
  · have h := h.1 c
    refine p_push (cc3 c25_60) ?_
    refine p_puti (cct c25_63 rfl) g1 mm_xpi ?_
    refine p_ald (cc3 c25_66) rfl ?_
    refine p_push (cc3 c25_67) ?_
    refine p_puti (cc3 c25_68) g1 mm_xpi ?_
    refine p_ald (cc3 c25_71) rfl ?_
    refine p_geti (cc3 c25_72) g1 rfl ?_
    refine p_ist (ls' := [(1, .int ((U (U κ a0 4 400) a0 5 0) a0 6)), (0, .ref a0)]) (cc3 c25_75) (by decide) rfl ?_
    exact p_lc (ls' := [(0, .ref a0), (1, .int ((U (U κ a0 4 400) a0 5 0) a0 6))]) c25_76 rfl rfl h
  · have h := h.2 c
    refine p_push (cc3 c25_54) ?_
    refine p_goto (cc3 c25_57) ?_
    refine p_puti (cct c25_63 rfl) g1 mm_xpi ?_
    refine p_ald (cc3 c25_66) rfl ?_
    refine p_push (cc3 c25_67) ?_
    refine p_puti (cc3 c25_68) g1 mm_xpi ?_
    refine p_ald (cc3 c25_71) rfl ?_
    refine p_geti (cc3 c25_72) g1 rfl ?_
    refine p_ist (ls' := [(1, .int ((U (U κ a0 4 402) a0 5 0) a0 6)), (0, .ref a0)]) (cc3 c25_75) (by decide) rfl ?_
    exact p_lc (ls' := [(0, .ref a0), (1, .int ((U (U κ a0 4 402) a0 5 0) a0 6))]) c25_76 rfl rfl h
theorem B25_76 {ev : xV} {Q : Option Value → xM → Prop} {sz sl : Nat} {K L : Nat → Nat} {κ : Nat → Nat → Int32} {ρ : Nat → Nat → Nat} {x1 : Int32} {a0 : Nat} (h : (K a0 = 11) ∧ (((κ a0 4) = 400) → (((κ a0 7) ≤ x1) → Q none (Mm sz sl K L κ ρ)) ∧ (¬ ((κ a0 7) ≤ x1) → (¬ ρ a0 3 = 0) ∧ ((K (ρ a0 3) = 9) ∧ ∃ r κ' ρ', ev 18 [.ref (ρ a0 3), .int x1] (Mm sz sl K L κ ρ) (some (.int r)) (Mm sz sl K L κ' ρ') ∧ wpE (xT 25) ev Q (110, [(0, .ref a0), (1, .int x1)], [.int r, .int ((κ a0 5) * 10), .ref a0], Mm sz sl K L κ' ρ')))) ∧ (¬ ((κ a0 4) = 400) → Q none (Mm sz sl K L κ ρ))) : wpE (xT 25) ev Q (76, [(0, .ref a0), (1, .int x1)], [], Mm sz sl K L κ ρ) := by
  refine p_ald (cct c25_76 rfl) rfl ?_
  obtain ⟨g1, h⟩ := h
  refine p_geti (cc3 c25_77) g1 rfl ?_
  refine p_push (cc3 c25_80) ?_
  refine p_icmp (cc3 c25_83) (fun c => ?_) (fun c => ?_)
  · have h := h.1 c
    refine p_ild (cc3 c25_86) rfl ?_
    refine p_ald (cc3 c25_87) rfl ?_
    refine p_geti (cc3 c25_88) g1 rfl ?_
    refine p_icmp (cc3 c25_91) (fun c => ?_) (fun c => ?_)
    · have h := h.1 c
      refine p_lc (ls' := []) c25_123 rfl rfl ?_
      exact p_rv (cct c25_123 rfl) h
    · have h := h.2 c
      refine p_ald (cc3 c25_94) rfl ?_
      refine p_ald (cc3 c25_95) rfl ?_
      refine p_geti (cc3 c25_96) g1 rfl ?_
      refine p_push (cc3 c25_99) ?_
      refine p_bin (cc3 c25_101) ?_
      refine p_ald (cc3 c25_102) rfl ?_
      obtain ⟨g2, h⟩ := h
      refine p_getp (cc3 c25_103) g1 rfl g2 ?_
      refine p_ild (cc3 c25_106) rfl ?_
      obtain ⟨g3, h⟩ := h
      obtain ⟨r, κ', ρ', he, h⟩ := h
      exact p_callV (cc3 c25_107) (Nat.le_of_ble_eq_true rfl) rfl rfl (Nat.le_of_ble_eq_true rfl) g3 he h
  · have h := h.2 c
    refine p_lc (ls' := []) c25_123 rfl rfl ?_
    exact p_rv (cct c25_123 rfl) h
theorem B25_110 {ev : xV} {Q : Option Value → xM → Prop} {sz sl : Nat} {K L : Nat → Nat} {κ : Nat → Nat → Int32} {ρ : Nat → Nat → Nat} {x1 s0 s1 : Int32} {a0 b2 : Nat} (h : (K b2 = 11) ∧ wpE (xT 25) ev Q (76, [(0, .ref a0), (1, .int (x1 + 1))], [], Mm sz sl K L (U κ b2 5 ((s1 + s0) - 48)) ρ)) : wpE (xT 25) ev Q (110, [(0, .ref a0), (1, .int x1)], [.int s0, .int s1, .ref b2], Mm sz sl K L κ ρ) := by
  refine p_bin (cc3 c25_110) ?_
  refine p_push (cc3 c25_111) ?_
  refine p_bin (cc3 c25_113) ?_
  obtain ⟨g1, h⟩ := h
  refine p_puti (cc3 c25_114) g1 mm_xpi ?_
  refine p_iinc (y := x1 + 1) (ls' := [(1, .int (x1 + 1)), (0, .ref a0)]) (cc3 c25_117) (by decide) rfl rfl rfl ?_
  refine p_goto (cc3 c25_120) ?_
  exact p_lc (ls' := [(0, .ref a0), (1, .int (x1 + 1))]) c25_76 rfl rfl h
theorem B26_0 {ev : xV} {Q : Option Value → xM → Prop} {sz sl : Nat} {K L : Nat → Nat} {κ : Nat → Nat → Int32} {ρ : Nat → Nat → Nat} {x0 : Int32} (h : ((x0 = 40) → Q (some (.int 1)) (Mm sz sl K L κ ρ)) ∧ (¬ (x0 = 40) → ((x0 = 41) → Q (some (.int 1)) (Mm sz sl K L κ ρ)) ∧ (¬ (x0 = 41) → ((x0 = 42) → Q (some (.int 1)) (Mm sz sl K L κ ρ)) ∧ (¬ (x0 = 42) → ((x0 = 43) → Q (some (.int 1)) (Mm sz sl K L κ ρ)) ∧ (¬ (x0 = 43) → ((x0 = 44) → Q (some (.int 0)) (Mm sz sl K L κ ρ)) ∧ (¬ (x0 = 44) → ((x0 = 45) → Q (some (.int 1)) (Mm sz sl K L κ ρ)) ∧ (¬ (x0 = 45) → ((x0 = 46) → Q (some (.int 0)) (Mm sz sl K L κ ρ)) ∧ (¬ (x0 = 46) → ((x0 = 47) → Q (some (.int 0)) (Mm sz sl K L κ ρ)) ∧ (¬ (x0 = 47) → ((x0 = 48) → Q (some (.int 0)) (Mm sz sl K L κ ρ)) ∧ (¬ (x0 = 48) → ((x0 = 49) → Q (some (.int 0)) (Mm sz sl K L κ ρ)) ∧ (¬ (x0 = 49) → ((x0 = 50) → Q (some (.int 0)) (Mm sz sl K L κ ρ)) ∧ (¬ (x0 = 50) → ((x0 = 51) → Q (some (.int 0)) (Mm sz sl K L κ ρ)) ∧ (¬ (x0 = 51) → ((x0 = 52) → Q (some (.int 0)) (Mm sz sl K L κ ρ)) ∧ (¬ (x0 = 52) → ((x0 = 53) → Q (some (.int 0)) (Mm sz sl K L κ ρ)) ∧ (¬ (x0 = 53) → ((x0 = 54) → Q (some (.int 0)) (Mm sz sl K L κ ρ)) ∧ (¬ (x0 = 54) → ((x0 = 55) → Q (some (.int 0)) (Mm sz sl K L κ ρ)) ∧ (¬ (x0 = 55) → ((x0 = 56) → Q (some (.int 0)) (Mm sz sl K L κ ρ)) ∧ (¬ (x0 = 56) → ((x0 = 57) → Q (some (.int 0)) (Mm sz sl K L κ ρ)) ∧ (¬ (x0 = 57) → ((x0 = 58) → Q (some (.int 0)) (Mm sz sl K L κ ρ)) ∧ (¬ (x0 = 58) → ((x0 = 59) → Q (some (.int 1)) (Mm sz sl K L κ ρ)) ∧ (¬ (x0 = 59) → ((x0 = 60) → Q (some (.int 1)) (Mm sz sl K L κ ρ)) ∧ (¬ (x0 = 60) → ((x0 = 61) → Q (some (.int 1)) (Mm sz sl K L κ ρ)) ∧ (¬ (x0 = 61) → Q (some (.int 0)) (Mm sz sl K L κ ρ)))))))))))))))))))))))) : wpE (xT 26) ev Q (0, [(0, .int x0)], [], Mm sz sl K L κ ρ) := by
  refine p_ild (cc3 c26_0) rfl ?_
  refine p_sw (cc3 c26_1) ?_
  refine ⟨fun c => ?_, fun c => ?_⟩
  · have h := h.1 c
    refine p_push (cc3 c26_104) ?_
    exact p_ri (cc3 c26_105) (by decide) h
  · have h := h.2 c
    refine ⟨fun c => ?_, fun c => ?_⟩
    · have h := h.1 c
      refine p_push (cc3 c26_104) ?_
      exact p_ri (cc3 c26_105) (by decide) h
    · have h := h.2 c
      refine ⟨fun c => ?_, fun c => ?_⟩
      · have h := h.1 c
        refine p_push (cc3 c26_104) ?_
        exact p_ri (cc3 c26_105) (by decide) h
      · have h := h.2 c
        refine ⟨fun c => ?_, fun c => ?_⟩
        · have h := h.1 c
          refine p_push (cc3 c26_104) ?_
          exact p_ri (cc3 c26_105) (by decide) h
        · have h := h.2 c
          refine ⟨fun c => ?_, fun c => ?_⟩
          · have h := h.1 c
            refine p_push (cc3 c26_106) ?_
            exact p_ri (cc3 c26_107) (by decide) h
          · have h := h.2 c
            refine ⟨fun c => ?_, fun c => ?_⟩
            · have h := h.1 c
              refine p_push (cc3 c26_104) ?_
              exact p_ri (cc3 c26_105) (by decide) h
            · have h := h.2 c
              refine ⟨fun c => ?_, fun c => ?_⟩
              · have h := h.1 c
                refine p_push (cc3 c26_106) ?_
                exact p_ri (cc3 c26_107) (by decide) h
              · have h := h.2 c
                refine ⟨fun c => ?_, fun c => ?_⟩
                · have h := h.1 c
                  refine p_push (cc3 c26_106) ?_
                  exact p_ri (cc3 c26_107) (by decide) h
                · have h := h.2 c
                  refine ⟨fun c => ?_, fun c => ?_⟩
                  · have h := h.1 c
                    refine p_push (cc3 c26_106) ?_
                    exact p_ri (cc3 c26_107) (by decide) h
                  · have h := h.2 c
                    refine ⟨fun c => ?_, fun c => ?_⟩
                    · have h := h.1 c
                      refine p_push (cc3 c26_106) ?_
                      exact p_ri (cc3 c26_107) (by decide) h
                    · have h := h.2 c
                      refine ⟨fun c => ?_, fun c => ?_⟩
                      · have h := h.1 c
                        refine p_push (cc3 c26_106) ?_
                        exact p_ri (cc3 c26_107) (by decide) h
                      · have h := h.2 c
                        refine ⟨fun c => ?_, fun c => ?_⟩
                        · have h := h.1 c
                          refine p_push (cc3 c26_106) ?_
                          exact p_ri (cc3 c26_107) (by decide) h
                        · have h := h.2 c
                          refine ⟨fun c => ?_, fun c => ?_⟩
                          · have h := h.1 c
                            refine p_push (cc3 c26_106) ?_
                            exact p_ri (cc3 c26_107) (by decide) h
                          · have h := h.2 c
                            refine ⟨fun c => ?_, fun c => ?_⟩
                            · have h := h.1 c
                              refine p_push (cc3 c26_106) ?_
                              exact p_ri (cc3 c26_107) (by decide) h
                            · have h := h.2 c
                              refine ⟨fun c => ?_, fun c => ?_⟩
                              · have h := h.1 c
                                refine p_push (cc3 c26_106) ?_
                                exact p_ri (cc3 c26_107) (by decide) h
                              · have h := h.2 c
                                refine ⟨fun c => ?_, fun c => ?_⟩
                                · have h := h.1 c
                                  refine p_push (cc3 c26_106) ?_
                                  exact p_ri (cc3 c26_107) (by decide) h
                                · have h := h.2 c
                                  refine ⟨fun c => ?_, fun c => ?_⟩
                                  · have h := h.1 c
                                    refine p_push (cc3 c26_106) ?_
                                    exact p_ri (cc3 c26_107) (by decide) h
                                  · have h := h.2 c
                                    refine ⟨fun c => ?_, fun c => ?_⟩
                                    · have h := h.1 c
                                      refine p_push (cc3 c26_106) ?_
                                      exact p_ri (cc3 c26_107) (by decide) h
                                    · have h := h.2 c
                                      refine ⟨fun c => ?_, fun c => ?_⟩
                                      · have h := h.1 c
                                        refine p_push (cc3 c26_106) ?_
                                        exact p_ri (cc3 c26_107) (by decide) h
                                      · have h := h.2 c
                                        refine ⟨fun c => ?_, fun c => ?_⟩
                                        · have h := h.1 c
                                          refine p_push (cc3 c26_104) ?_
                                          exact p_ri (cc3 c26_105) (by decide) h
                                        · have h := h.2 c
                                          refine ⟨fun c => ?_, fun c => ?_⟩
                                          · have h := h.1 c
                                            refine p_push (cc3 c26_104) ?_
                                            exact p_ri (cc3 c26_105) (by decide) h
                                          · have h := h.2 c
                                            refine ⟨fun c => ?_, fun c => ?_⟩
                                            · have h := h.1 c
                                              refine p_push (cc3 c26_104) ?_
                                              exact p_ri (cc3 c26_105) (by decide) h
                                            · have h := h.2 c
                                              refine p_push (cc3 c26_106) ?_
                                              exact p_ri (cc3 c26_107) (by decide) h
theorem B27_0 {ev : xV} {Q : Option Value → xM → Prop} {sz sl : Nat} {K L : Nat → Nat} {κ : Nat → Nat → Int32} {ρ : Nat → Nat → Nat} {x1 : Int32} {a0 : Nat} (h : (K a0 = 11) ∧ (((κ a0 4) = x1) → ((x1 = 401) → Q none (Mm sz sl K L κ ρ)) ∧ (¬ (x1 = 401) → (∃ κ' ρ', ev 17 [.ref a0] (Mm sz sl K L κ ρ) none (Mm sz sl K L κ' ρ') ∧ wpE (xT 27) ev Q (26, [], [], Mm sz sl K L κ' ρ')))) ∧ (¬ ((κ a0 4) = x1) → (∃ κ' ρ', ev 28 [.ref a0] (Mm sz sl K L κ ρ) none (Mm sz sl K L κ' ρ') ∧ wpE (xT 27) ev Q (12, [(0, .ref a0), (1, .int x1)], [], Mm sz sl K L κ' ρ')))) : wpE (xT 27) ev Q (0, [(0, .ref a0), (1, .int x1)], [], Mm sz sl K L κ ρ) := by
  refine p_ald (cc3 c27_0) rfl ?_
  obtain ⟨g1, h⟩ := h
  refine p_geti (cc3 c27_1) g1 rfl ?_
  refine p_ild (cc3 c27_4) rfl ?_
  refine p_icmp (cc3 c27_5) (fun c => ?_) (fun c => ?_)
  · have h := h.1 c
    refine p_ild (cc3 c27_15) rfl ?_
    refine p_push (cc3 c27_16) ?_
    refine p_icmp (cc3 c27_19) (fun c => ?_) (fun c => ?_)
    · have h := h.1 c
      refine p_lc (ls' := []) c27_26 rfl rfl ?_
      exact p_rv (cct c27_26 rfl) h
    · have h := h.2 c
      refine p_ald (cc3 c27_22) rfl ?_
      obtain ⟨κ', ρ', he, h⟩ := h
      exact p_callV (cc3 c27_23) (Nat.le_of_ble_eq_true rfl) rfl rfl (Nat.le_of_ble_eq_true rfl) g1 he (p_lc (ls' := []) c27_26 rfl rfl h)
  · have h := h.2 c
    refine p_ald (cc3 c27_8) rfl ?_
    obtain ⟨κ', ρ', he, h⟩ := h
    exact p_callV (cc3 c27_9) (Nat.le_of_ble_eq_true rfl) rfl rfl (Nat.le_of_ble_eq_true rfl) g1 he h
theorem B27_12 {ev : xV} {Q : Option Value → xM → Prop} {sz sl : Nat} {K L : Nat → Nat} {κ : Nat → Nat → Int32} {ρ : Nat → Nat → Nat} {x1 : Int32} {a0 : Nat} (h : Q none (Mm sz sl K L κ ρ)) : wpE (xT 27) ev Q (12, [(0, .ref a0), (1, .int x1)], [], Mm sz sl K L κ ρ) := by
  refine p_goto (cc3 c27_12) ?_
  refine p_lc (ls' := []) c27_26 rfl rfl ?_
  exact p_rv (cct c27_26 rfl) h
theorem B27_26 {ev : xV} {Q : Option Value → xM → Prop} {sz sl : Nat} {K L : Nat → Nat} {κ : Nat → Nat → Int32} {ρ : Nat → Nat → Nat} (h : Q none (Mm sz sl K L κ ρ)) : wpE (xT 27) ev Q (26, [], [], Mm sz sl K L κ ρ) := by
  exact p_rv (cct c27_26 rfl) h
theorem B28_0 {ev : xV} {Q : Option Value → xM → Prop} {sz sl : Nat} {K L : Nat → Nat} {κ : Nat → Nat → Int32} {ρ : Nat → Nat → Nat} {a0 : Nat} (h : (K a0 = 11) ∧ (((κ a0 8) = (-1)) → Q none (Mm sz sl K L (U (U κ a0 8 (κ a0 6)) a0 4 402) ρ)) ∧ (¬ ((κ a0 8) = (-1)) → Q none (Mm sz sl K L (U κ a0 4 402) ρ))) : wpE (xT 28) ev Q (0, [(0, .ref a0)], [], Mm sz sl K L κ ρ) := by
  refine p_ald (cc3 c28_0) rfl ?_
  obtain ⟨g1, h⟩ := h
  refine p_geti (cc3 c28_1) g1 rfl ?_
  refine p_push (cc3 c28_4) ?_
  refine p_icmp (cc3 c28_5) (fun c => ?_) (fun c => ?_)
  · have h := h.1 c
    refine p_ald (cc3 c28_8) rfl ?_
    refine p_ald (cc3 c28_9) rfl ?_
    refine p_geti (cc3 c28_10) g1 rfl ?_
    refine p_puti (cc3 c28_13) g1 mm_xpi ?_
    refine p_ald (cct c28_16 rfl) rfl ?_
    refine p_push (cc3 c28_17) ?_
    refine p_puti (cc3 c28_20) g1 mm_xpi ?_
    exact p_rv (cc3 c28_23) h
  · have h := h.2 c
    refine p_ald (cct c28_16 rfl) rfl ?_
    refine p_push (cc3 c28_17) ?_
    refine p_puti (cc3 c28_20) g1 mm_xpi ?_
    exact p_rv (cc3 c28_23) h
theorem B29_0 {ev : xV} {Q : Option Value → xM → Prop} {sz sl : Nat} {K L : Nat → Nat} {κ : Nat → Nat → Int32} {ρ : Nat → Nat → Nat} {x1 x2 : Int32} {a0 : Nat} (h : ((x1 ≤ 4) → ((x1 = 2) → (K a0 = 11) ∧ (((κ a0 4) = 204) → (∃ r κ' ρ', ev 32 [.ref a0, .int x2] (Mm sz sl K L κ ρ) (some (.int r)) (Mm sz sl K L κ' ρ') ∧ wpE (xT 29) ev Q (31, [(0, .ref a0), (1, .int x1), (2, .int x2)], [.int r], Mm sz sl K L κ' ρ'))) ∧ (¬ ((κ a0 4) = 204) → (∃ κ' ρ', ev 29 [.ref a0, .int (x1 + 1), .int x2] (Mm sz sl K L κ ρ) none (Mm sz sl K L κ' ρ') ∧ wpE (xT 29) ev Q (62, [(0, .ref a0), (1, .int x1), (2, .int x2)], [], Mm sz sl K L κ' ρ')))) ∧ (¬ (x1 = 2) → ((K a0 = 11) ∧ ∃ κ' ρ', ev 29 [.ref a0, .int (x1 + 1), .int x2] (Mm sz sl K L κ ρ) none (Mm sz sl K L κ' ρ') ∧ wpE (xT 29) ev Q (62, [(0, .ref a0), (1, .int x1), (2, .int x2)], [], Mm sz sl K L κ' ρ')))) ∧ (¬ (x1 ≤ 4) → ((K a0 = 11) ∧ ∃ κ' ρ', ev 30 [.ref a0, .int x2] (Mm sz sl K L κ ρ) none (Mm sz sl K L κ' ρ') ∧ wpE (xT 29) ev Q (10, [(0, .ref a0), (1, .int x1), (2, .int x2)], [], Mm sz sl K L κ' ρ')))) : wpE (xT 29) ev Q (0, [(0, .ref a0), (1, .int x1), (2, .int x2)], [], Mm sz sl K L κ ρ) := by
  refine p_ild (cc3 c29_0) rfl ?_
  refine p_push (cc3 c29_1) ?_
  refine p_icmp (cc3 c29_2) (fun c => ?_) (fun c => ?_)
  · have h := h.1 c
    refine p_ild (cc3 c29_11) rfl ?_
    refine p_push (cc3 c29_12) ?_
    refine p_icmp (cc3 c29_13) (fun c => ?_) (fun c => ?_)
    · have h := h.1 c
      refine p_ald (cc3 c29_16) rfl ?_
      obtain ⟨g1, h⟩ := h
      refine p_geti (cc3 c29_17) g1 rfl ?_
      refine p_push (cc3 c29_20) ?_
      refine p_icmp (cc3 c29_23) (fun c => ?_) (fun c => ?_)
      · have h := h.1 c
        refine p_ald (cc3 c29_26) rfl ?_
        refine p_ild (cc3 c29_27) rfl ?_
        obtain ⟨r, κ', ρ', he, h⟩ := h
        exact p_callV (cc3 c29_28) (Nat.le_of_ble_eq_true rfl) rfl rfl (Nat.le_of_ble_eq_true rfl) g1 he h
      · have h := h.2 c
        refine p_ald (cct c29_54 rfl) rfl ?_
        refine p_ild (cc3 c29_55) rfl ?_
        refine p_push (cc3 c29_56) ?_
        refine p_bin (cc3 c29_57) ?_
        refine p_ild (cc3 c29_58) rfl ?_
        obtain ⟨κ', ρ', he, h⟩ := h
        exact p_callV (cc3 c29_59) (Nat.le_of_ble_eq_true rfl) rfl rfl (Nat.le_of_ble_eq_true rfl) g1 he h
    · have h := h.2 c
      refine p_ald (cct c29_54 rfl) rfl ?_
      refine p_ild (cc3 c29_55) rfl ?_
      refine p_push (cc3 c29_56) ?_
      refine p_bin (cc3 c29_57) ?_
      refine p_ild (cc3 c29_58) rfl ?_
      obtain ⟨g1, h⟩ := h
      obtain ⟨κ', ρ', he, h⟩ := h
      exact p_callV (cc3 c29_59) (Nat.le_of_ble_eq_true rfl) rfl rfl (Nat.le_of_ble_eq_true rfl) g1 he h
  · have h := h.2 c
    refine p_ald (cc3 c29_5) rfl ?_
    refine p_ild (cc3 c29_6) rfl ?_
    obtain ⟨g1, h⟩ := h
    obtain ⟨κ', ρ', he, h⟩ := h
    exact p_callV (cc3 c29_7) (Nat.le_of_ble_eq_true rfl) rfl rfl (Nat.le_of_ble_eq_true rfl) g1 he h
theorem B29_10 {ev : xV} {Q : Option Value → xM → Prop} {sz sl : Nat} {K L : Nat → Nat} {κ : Nat → Nat → Int32} {ρ : Nat → Nat → Nat} {x1 x2 : Int32} {a0 : Nat} (h : Q none (Mm sz sl K L κ ρ)) : wpE (xT 29) ev Q (10, [(0, .ref a0), (1, .int x1), (2, .int x2)], [], Mm sz sl K L κ ρ) := by
  exact p_rv (cc3 c29_10) h
theorem B29_31 {ev : xV} {Q : Option Value → xM → Prop} {sz sl : Nat} {K L : Nat → Nat} {κ : Nat → Nat → Int32} {ρ : Nat → Nat → Nat} {x1 x2 s0 : Int32} {a0 : Nat} (h : ((s0 = 0) → Q none (Mm sz sl K L κ ρ)) ∧ (¬ (s0 = 0) → ((K a0 = 11) ∧ ∃ κ' ρ', ev 17 [.ref a0] (Mm sz sl K L κ ρ) none (Mm sz sl K L κ' ρ') ∧ wpE (xT 29) ev Q (38, [(0, .ref a0), (1, .int x1), (2, .int x2)], [], Mm sz sl K L κ' ρ')))) : wpE (xT 29) ev Q (31, [(0, .ref a0), (1, .int x1), (2, .int x2)], [.int s0], Mm sz sl K L κ ρ) := by
  refine p_if (cc3 c29_31) (fun c => ?_) (fun c => ?_)
  · have h := h.1 c
    refine p_lc (ls' := []) c29_53 rfl rfl ?_
    exact p_rv (cct c29_53 rfl) h
  · have h := h.2 c
    refine p_ald (cc3 c29_34) rfl ?_
    obtain ⟨g1, h⟩ := h
    obtain ⟨κ', ρ', he, h⟩ := h
    exact p_callV (cc3 c29_35) (Nat.le_of_ble_eq_true rfl) rfl rfl (Nat.le_of_ble_eq_true rfl) g1 he h
theorem B29_38 {ev : xV} {Q : Option Value → xM → Prop} {sz sl : Nat} {K L : Nat → Nat} {κ : Nat → Nat → Int32} {ρ : Nat → Nat → Nat} {x1 x2 : Int32} {a0 : Nat} (h : ((K a0 = 11) ∧ ∃ κ' ρ', ev 29 [.ref a0, .int 2, .int (x2 + 1)] (Mm sz sl K L κ ρ) none (Mm sz sl K L κ' ρ') ∧ wpE (xT 29) ev Q (46, [(0, .ref a0), (1, .int x1), (2, .int x2)], [], Mm sz sl K L κ' ρ'))) : wpE (xT 29) ev Q (38, [(0, .ref a0), (1, .int x1), (2, .int x2)], [], Mm sz sl K L κ ρ) := by
  refine p_ald (cc3 c29_38) rfl ?_
  refine p_push (cc3 c29_39) ?_
  refine p_ild (cc3 c29_40) rfl ?_
  refine p_push (cc3 c29_41) ?_
  refine p_bin (cc3 c29_42) ?_
  obtain ⟨g1, h⟩ := h
  obtain ⟨κ', ρ', he, h⟩ := h
  exact p_callV (cc3 c29_43) (Nat.le_of_ble_eq_true rfl) rfl rfl (Nat.le_of_ble_eq_true rfl) g1 he h
theorem B29_46 {ev : xV} {Q : Option Value → xM → Prop} {sz sl : Nat} {K L : Nat → Nat} {κ : Nat → Nat → Int32} {ρ : Nat → Nat → Nat} {x1 x2 : Int32} {a0 : Nat} (h : ((K a0 = 11) ∧ ∃ κ' ρ', ev 31 [.ref a0, .int ((-204))] (Mm sz sl K L κ ρ) none (Mm sz sl K L κ' ρ') ∧ wpE (xT 29) ev Q (53, [], [], Mm sz sl K L κ' ρ'))) : wpE (xT 29) ev Q (46, [(0, .ref a0), (1, .int x1), (2, .int x2)], [], Mm sz sl K L κ ρ) := by
  refine p_ald (cc3 c29_46) rfl ?_
  refine p_push (cc3 c29_47) ?_
  obtain ⟨g1, h⟩ := h
  obtain ⟨κ', ρ', he, h⟩ := h
  exact p_callV (cc3 c29_50) (Nat.le_of_ble_eq_true rfl) rfl rfl (Nat.le_of_ble_eq_true rfl) g1 he (p_lc (ls' := []) c29_53 rfl rfl h)
theorem B29_53 {ev : xV} {Q : Option Value → xM → Prop} {sz sl : Nat} {K L : Nat → Nat} {κ : Nat → Nat → Int32} {ρ : Nat → Nat → Nat} (h : Q none (Mm sz sl K L κ ρ)) : wpE (xT 29) ev Q (53, [], [], Mm sz sl K L κ ρ) := by
  exact p_rv (cct c29_53 rfl) h
theorem B29_62 {ev : xV} {Q : Option Value → xM → Prop} {sz sl : Nat} {K L : Nat → Nat} {κ : Nat → Nat → Int32} {ρ : Nat → Nat → Nat} {x1 x2 : Int32} {a0 : Nat} (h : ((x1 = 2) → wpE (xT 29) ev Q (78, [(0, .ref a0), (1, .int x1), (2, .int x2), (3, .int 1), (4, .int 0)], [], Mm sz sl K L κ ρ)) ∧ (¬ (x1 = 2) → wpE (xT 29) ev Q (78, [(0, .ref a0), (1, .int x1), (2, .int x2), (3, .int 160), (4, .int 0)], [], Mm sz sl K L κ ρ))) : wpE (xT 29) ev Q (62, [(0, .ref a0), (1, .int x1), (2, .int x2)], [], Mm sz sl K L κ ρ) := by
  refine p_ild (cc3 c29_62) rfl ?_
  refine p_push (cc3 c29_63) ?_
  refine p_icmp (cc3 c29_64) (fun c => ?_) (fun c => ?_)
  · have h := h.1 c
    refine p_push (cc3 c29_67) ?_
    refine p_goto (cc3 c29_68) ?_
    refine p_ist (ls' := [(3, .int 1), (0, .ref a0), (1, .int x1), (2, .int x2)]) (cct c29_74 rfl) (by decide) rfl ?_
    refine p_push (cc3 c29_75) ?_
    refine p_ist (ls' := [(4, .int 0), (3, .int 1), (0, .ref a0), (1, .int x1), (2, .int x2)]) (cc3 c29_76) (by decide) rfl ?_
    exact p_lc (ls' := [(0, .ref a0), (1, .int x1), (2, .int x2), (3, .int 1), (4, .int 0)]) c29_78 rfl rfl h
  · have h := h.2 c
    refine p_push (cc3 c29_71) ?_
    refine p_ist (ls' := [(3, .int 160), (0, .ref a0), (1, .int x1), (2, .int x2)]) (cct c29_74 rfl) (by decide) rfl ?_
    refine p_push (cc3 c29_75) ?_
    refine p_ist (ls' := [(4, .int 0), (3, .int 160), (0, .ref a0), (1, .int x1), (2, .int x2)]) (cc3 c29_76) (by decide) rfl ?_
    exact p_lc (ls' := [(0, .ref a0), (1, .int x1), (2, .int x2), (3, .int 160), (4, .int 0)]) c29_78 rfl rfl h
theorem B29_78 {ev : xV} {Q : Option Value → xM → Prop} {sz sl : Nat} {K L : Nat → Nat} {κ : Nat → Nat → Int32} {ρ : Nat → Nat → Nat} {x1 x2 x3 x4 : Int32} {a0 : Nat} (h : ((x3 ≤ x4) → Q none (Mm sz sl K L κ ρ)) ∧ (¬ (x3 ≤ x4) → (K a0 = 11) ∧ (∃ r κ' ρ', ev 33 [.int (κ a0 4)] (Mm sz sl K L κ ρ) (some (.int r)) (Mm sz sl K L κ' ρ') ∧ wpE (xT 29) ev Q (91, [(0, .ref a0), (1, .int x1), (2, .int x2), (3, .int x3), (4, .int x4)], [.int r], Mm sz sl K L κ' ρ')))) : wpE (xT 29) ev Q (78, [(0, .ref a0), (1, .int x1), (2, .int x2), (3, .int x3), (4, .int x4)], [], Mm sz sl K L κ ρ) := by
  refine p_ild (cct c29_78 rfl) rfl ?_
  refine p_ild (cc3 c29_80) rfl ?_
  refine p_icmp (cc3 c29_81) (fun c => ?_) (fun c => ?_)
  · have h := h.1 c
    refine p_lc (ls' := []) c29_126 rfl rfl ?_
    exact p_rv (cct c29_126 rfl) h
  · have h := h.2 c
    refine p_ald (cc3 c29_84) rfl ?_
    obtain ⟨g1, h⟩ := h
    refine p_geti (cc3 c29_85) g1 rfl ?_
    obtain ⟨r, κ', ρ', he, h⟩ := h
    exact p_callS (cc3 c29_88) (Nat.le_of_ble_eq_true rfl) rfl rfl (Nat.le_of_ble_eq_true rfl) he h
theorem B29_91 {ev : xV} {Q : Option Value → xM → Prop} {sz sl : Nat} {K L : Nat → Nat} {κ : Nat → Nat → Int32} {ρ : Nat → Nat → Nat} {x1 x2 x3 x4 s0 : Int32} {a0 : Nat} (h : ((s0 = x1) → (K a0 = 11) ∧ (∃ κ' ρ', ev 17 [.ref a0] (Mm sz sl K L κ ρ) none (Mm sz sl K L κ' ρ') ∧ wpE (xT 29) ev Q (105, [(5, .int (κ a0 4)), (0, .ref a0), (1, .int x1), (2, .int x2), (3, .int x3), (4, .int x4)], [], Mm sz sl K L κ' ρ'))) ∧ (¬ (s0 = x1) → Q none (Mm sz sl K L κ ρ))) : wpE (xT 29) ev Q (91, [(0, .ref a0), (1, .int x1), (2, .int x2), (3, .int x3), (4, .int x4)], [.int s0], Mm sz sl K L κ ρ) := by
  refine p_ild (cc3 c29_91) rfl ?_
  refine p_icmp (cc3 c29_92) (fun c => ?_) (fun c => ?_)
  · have h := h.1 c
    refine p_ald (cc3 c29_95) rfl ?_
    obtain ⟨g1, h⟩ := h
    refine p_geti (cc3 c29_96) g1 rfl ?_
    refine p_ist (ls' := [(5, .int (κ a0 4)), (0, .ref a0), (1, .int x1), (2, .int x2), (3, .int x3), (4, .int x4)]) (cc3 c29_99) (by decide) rfl ?_
    refine p_ald (cc3 c29_101) rfl ?_
    obtain ⟨κ', ρ', he, h⟩ := h
    exact p_callV (cc3 c29_102) (Nat.le_of_ble_eq_true rfl) rfl rfl (Nat.le_of_ble_eq_true rfl) g1 he h
  · have h := h.2 c
    refine p_lc (ls' := []) c29_126 rfl rfl ?_
    exact p_rv (cct c29_126 rfl) h
theorem B29_105 {ev : xV} {Q : Option Value → xM → Prop} {sz sl : Nat} {K L : Nat → Nat} {κ : Nat → Nat → Int32} {ρ : Nat → Nat → Nat} {x5 x1 x2 x3 x4 : Int32} {a0 : Nat} (h : ((K a0 = 11) ∧ ∃ κ' ρ', ev 29 [.ref a0, .int (x1 + 1), .int x2] (Mm sz sl K L κ ρ) none (Mm sz sl K L κ' ρ') ∧ wpE (xT 29) ev Q (113, [(5, .int x5), (0, .ref a0), (1, .int x1), (2, .int x2), (3, .int x3), (4, .int x4)], [], Mm sz sl K L κ' ρ'))) : wpE (xT 29) ev Q (105, [(5, .int x5), (0, .ref a0), (1, .int x1), (2, .int x2), (3, .int x3), (4, .int x4)], [], Mm sz sl K L κ ρ) := by
  refine p_ald (cc3 c29_105) rfl ?_
  refine p_ild (cc3 c29_106) rfl ?_
  refine p_push (cc3 c29_107) ?_
  refine p_bin (cc3 c29_108) ?_
  refine p_ild (cc3 c29_109) rfl ?_
  obtain ⟨g1, h⟩ := h
  obtain ⟨κ', ρ', he, h⟩ := h
  exact p_callV (cc3 c29_110) (Nat.le_of_ble_eq_true rfl) rfl rfl (Nat.le_of_ble_eq_true rfl) g1 he h
theorem B29_113 {ev : xV} {Q : Option Value → xM → Prop} {sz sl : Nat} {K L : Nat → Nat} {κ : Nat → Nat → Int32} {ρ : Nat → Nat → Nat} {x5 x1 x2 x3 x4 : Int32} {a0 : Nat} (h : ((K a0 = 11) ∧ ∃ κ' ρ', ev 31 [.ref a0, .int (-x5)] (Mm sz sl K L κ ρ) none (Mm sz sl K L κ' ρ') ∧ wpE (xT 29) ev Q (120, [(5, .int x5), (0, .ref a0), (1, .int x1), (2, .int x2), (3, .int x3), (4, .int x4)], [], Mm sz sl K L κ' ρ'))) : wpE (xT 29) ev Q (113, [(5, .int x5), (0, .ref a0), (1, .int x1), (2, .int x2), (3, .int x3), (4, .int x4)], [], Mm sz sl K L κ ρ) := by
  refine p_ald (cc3 c29_113) rfl ?_
  refine p_ild (cc3 c29_114) rfl ?_
  refine p_un (cc3 c29_116) ?_
  obtain ⟨g1, h⟩ := h
  obtain ⟨κ', ρ', he, h⟩ := h
  exact p_callV (cc3 c29_117) (Nat.le_of_ble_eq_true rfl) rfl rfl (Nat.le_of_ble_eq_true rfl) g1 he h
theorem B29_120 {ev : xV} {Q : Option Value → xM → Prop} {sz sl : Nat} {K L : Nat → Nat} {κ : Nat → Nat → Int32} {ρ : Nat → Nat → Nat} {x5 x1 x2 x3 x4 : Int32} {a0 : Nat} (h : wpE (xT 29) ev Q (78, [(0, .ref a0), (1, .int x1), (2, .int x2), (3, .int x3), (4, .int (x4 + 1))], [], Mm sz sl K L κ ρ)) : wpE (xT 29) ev Q (120, [(5, .int x5), (0, .ref a0), (1, .int x1), (2, .int x2), (3, .int x3), (4, .int x4)], [], Mm sz sl K L κ ρ) := by
  refine p_iinc (y := x4 + 1) (ls' := [(4, .int (x4 + 1)), (5, .int x5), (0, .ref a0), (1, .int x1), (2, .int x2), (3, .int x3)]) (cc3 c29_120) (by decide) rfl rfl rfl ?_
  refine p_goto (cc3 c29_123) ?_
  exact p_lc (ls' := [(0, .ref a0), (1, .int x1), (2, .int x2), (3, .int x3), (4, .int (x4 + 1))]) c29_78 rfl rfl h
theorem B30_0 {ev : xV} {Q : Option Value → xM → Prop} {sz sl : Nat} {K L : Nat → Nat} {κ : Nat → Nat → Int32} {ρ : Nat → Nat → Nat} {x1 : Int32} {a0 : Nat} (h : (K a0 = 11) ∧ (((κ a0 4) = 400) → (∃ κ' ρ', ev 31 [.ref a0, .int (κ a0 5)] (Mm sz sl K L κ ρ) none (Mm sz sl K L κ' ρ') ∧ wpE (xT 30) ev Q (18, [(0, .ref a0), (1, .int x1)], [], Mm sz sl K L κ' ρ'))) ∧ (¬ ((κ a0 4) = 400) → (((κ a0 4) < 205) → wpE (xT 30) ev Q (68, [(0, .ref a0), (1, .int x1)], [], Mm sz sl K L κ ρ)) ∧ (¬ ((κ a0 4) < 205) → ((211 ≤ (κ a0 4)) → wpE (xT 30) ev Q (68, [(0, .ref a0), (1, .int x1)], [], Mm sz sl K L κ ρ)) ∧ (¬ (211 ≤ (κ a0 4)) → (∃ κ' ρ', ev 31 [.ref a0, .int ((10000 + (κ a0 4)) - 205)] (Mm sz sl K L κ ρ) none (Mm sz sl K L κ' ρ') ∧ wpE (xT 30) ev Q (61, [(0, .ref a0), (1, .int x1)], [], Mm sz sl K L κ' ρ')))))) : wpE (xT 30) ev Q (0, [(0, .ref a0), (1, .int x1)], [], Mm sz sl K L κ ρ) := by
  refine p_ald (cc3 c30_0) rfl ?_
  obtain ⟨g1, h⟩ := h
  refine p_geti (cc3 c30_1) g1 rfl ?_
  refine p_push (cc3 c30_4) ?_
  refine p_icmp (cc3 c30_7) (fun c => ?_) (fun c => ?_)
  · have h := h.1 c
    refine p_ald (cc3 c30_10) rfl ?_
    refine p_ald (cc3 c30_11) rfl ?_
    refine p_geti (cc3 c30_12) g1 rfl ?_
    obtain ⟨κ', ρ', he, h⟩ := h
    exact p_callV (cc3 c30_15) (Nat.le_of_ble_eq_true rfl) rfl rfl (Nat.le_of_ble_eq_true rfl) g1 he h
  · have h := h.2 c
    refine p_ald (cc3 c30_25) rfl ?_
    refine p_geti (cc3 c30_26) g1 rfl ?_
    refine p_push (cc3 c30_29) ?_
    refine p_icmp (cc3 c30_32) (fun c => ?_) (fun c => ?_)
    · have h := h.1 c
      exact h
    · have h := h.2 c
      refine p_ald (cc3 c30_35) rfl ?_
      refine p_geti (cc3 c30_36) g1 rfl ?_
      refine p_push (cc3 c30_39) ?_
      refine p_icmp (cc3 c30_42) (fun c => ?_) (fun c => ?_)
      · have h := h.1 c
        exact h
      · have h := h.2 c
        refine p_ald (cc3 c30_45) rfl ?_
        refine p_push (cc3 c30_46) ?_
        refine p_ald (cc3 c30_49) rfl ?_
        refine p_geti (cc3 c30_50) g1 rfl ?_
        refine p_bin (cc3 c30_53) ?_
        refine p_push (cc3 c30_54) ?_
        refine p_bin (cc3 c30_57) ?_
        obtain ⟨κ', ρ', he, h⟩ := h
        exact p_callV (cc3 c30_58) (Nat.le_of_ble_eq_true rfl) rfl rfl (Nat.le_of_ble_eq_true rfl) g1 he h
theorem B30_18 {ev : xV} {Q : Option Value → xM → Prop} {sz sl : Nat} {K L : Nat → Nat} {κ : Nat → Nat → Int32} {ρ : Nat → Nat → Nat} {x1 : Int32} {a0 : Nat} (h : ((K a0 = 11) ∧ ∃ κ' ρ', ev 17 [.ref a0] (Mm sz sl K L κ ρ) none (Mm sz sl K L κ' ρ') ∧ wpE (xT 30) ev Q (22, [(0, .ref a0), (1, .int x1)], [], Mm sz sl K L κ' ρ'))) : wpE (xT 30) ev Q (18, [(0, .ref a0), (1, .int x1)], [], Mm sz sl K L κ ρ) := by
  refine p_ald (cc3 c30_18) rfl ?_
  obtain ⟨g1, h⟩ := h
  obtain ⟨κ', ρ', he, h⟩ := h
  exact p_callV (cc3 c30_19) (Nat.le_of_ble_eq_true rfl) rfl rfl (Nat.le_of_ble_eq_true rfl) g1 he h
theorem B30_22 {ev : xV} {Q : Option Value → xM → Prop} {sz sl : Nat} {K L : Nat → Nat} {κ : Nat → Nat → Int32} {ρ : Nat → Nat → Nat} {x1 : Int32} {a0 : Nat} (h : Q none (Mm sz sl K L κ ρ)) : wpE (xT 30) ev Q (22, [(0, .ref a0), (1, .int x1)], [], Mm sz sl K L κ ρ) := by
  refine p_goto (cc3 c30_22) ?_
  refine p_lc (ls' := []) c30_148 rfl rfl ?_
  exact p_rv (cct c30_148 rfl) h
theorem B30_61 {ev : xV} {Q : Option Value → xM → Prop} {sz sl : Nat} {K L : Nat → Nat} {κ : Nat → Nat → Int32} {ρ : Nat → Nat → Nat} {x1 : Int32} {a0 : Nat} (h : ((K a0 = 11) ∧ ∃ κ' ρ', ev 17 [.ref a0] (Mm sz sl K L κ ρ) none (Mm sz sl K L κ' ρ') ∧ wpE (xT 30) ev Q (65, [(0, .ref a0), (1, .int x1)], [], Mm sz sl K L κ' ρ'))) : wpE (xT 30) ev Q (61, [(0, .ref a0), (1, .int x1)], [], Mm sz sl K L κ ρ) := by
  refine p_ald (cc3 c30_61) rfl ?_
  obtain ⟨g1, h⟩ := h
  obtain ⟨κ', ρ', he, h⟩ := h
  exact p_callV (cc3 c30_62) (Nat.le_of_ble_eq_true rfl) rfl rfl (Nat.le_of_ble_eq_true rfl) g1 he h
theorem B30_65 {ev : xV} {Q : Option Value → xM → Prop} {sz sl : Nat} {K L : Nat → Nat} {κ : Nat → Nat → Int32} {ρ : Nat → Nat → Nat} {x1 : Int32} {a0 : Nat} (h : Q none (Mm sz sl K L κ ρ)) : wpE (xT 30) ev Q (65, [(0, .ref a0), (1, .int x1)], [], Mm sz sl K L κ ρ) := by
  refine p_goto (cc3 c30_65) ?_
  refine p_lc (ls' := []) c30_148 rfl rfl ?_
  exact p_rv (cct c30_148 rfl) h
theorem B30_68 {ev : xV} {Q : Option Value → xM → Prop} {sz sl : Nat} {K L : Nat → Nat} {κ : Nat → Nat → Int32} {ρ : Nat → Nat → Nat} {x1 : Int32} {a0 : Nat} (h : (K a0 = 11) ∧ (((κ a0 4) = 45) → (∃ r κ' ρ', ev 32 [.ref a0, .int x1] (Mm sz sl K L κ ρ) (some (.int r)) (Mm sz sl K L κ' ρ') ∧ wpE (xT 30) ev Q (82, [(0, .ref a0), (1, .int x1)], [.int r], Mm sz sl K L κ' ρ'))) ∧ (¬ ((κ a0 4) = 45) → (((κ a0 4) = 40) → (∃ r κ' ρ', ev 32 [.ref a0, .int x1] (Mm sz sl K L κ ρ) (some (.int r)) (Mm sz sl K L κ' ρ') ∧ wpE (xT 30) ev Q (120, [(0, .ref a0), (1, .int x1)], [.int r], Mm sz sl K L κ' ρ'))) ∧ (¬ ((κ a0 4) = 40) → (∃ κ' ρ', ev 28 [.ref a0] (Mm sz sl K L κ ρ) none (Mm sz sl K L κ' ρ') ∧ wpE (xT 30) ev Q (148, [], [], Mm sz sl K L κ' ρ'))))) : wpE (xT 30) ev Q (68, [(0, .ref a0), (1, .int x1)], [], Mm sz sl K L κ ρ) := by
  refine p_ald (cct c30_68 rfl) rfl ?_
  obtain ⟨g1, h⟩ := h
  refine p_geti (cc3 c30_69) g1 rfl ?_
  refine p_push (cc3 c30_72) ?_
  refine p_icmp (cc3 c30_74) (fun c => ?_) (fun c => ?_)
  · have h := h.1 c
    refine p_ald (cc3 c30_77) rfl ?_
    refine p_ild (cc3 c30_78) rfl ?_
    obtain ⟨r, κ', ρ', he, h⟩ := h
    exact p_callV (cc3 c30_79) (Nat.le_of_ble_eq_true rfl) rfl rfl (Nat.le_of_ble_eq_true rfl) g1 he h
  · have h := h.2 c
    refine p_ald (cc3 c30_106) rfl ?_
    refine p_geti (cc3 c30_107) g1 rfl ?_
    refine p_push (cc3 c30_110) ?_
    refine p_icmp (cc3 c30_112) (fun c => ?_) (fun c => ?_)
    · have h := h.1 c
      refine p_ald (cc3 c30_115) rfl ?_
      refine p_ild (cc3 c30_116) rfl ?_
      obtain ⟨r, κ', ρ', he, h⟩ := h
      exact p_callV (cc3 c30_117) (Nat.le_of_ble_eq_true rfl) rfl rfl (Nat.le_of_ble_eq_true rfl) g1 he h
    · have h := h.2 c
      refine p_ald (cc3 c30_144) rfl ?_
      obtain ⟨κ', ρ', he, h⟩ := h
      exact p_callV (cc3 c30_145) (Nat.le_of_ble_eq_true rfl) rfl rfl (Nat.le_of_ble_eq_true rfl) g1 he (p_lc (ls' := []) c30_148 rfl rfl h)
theorem B30_82 {ev : xV} {Q : Option Value → xM → Prop} {sz sl : Nat} {K L : Nat → Nat} {κ : Nat → Nat → Int32} {ρ : Nat → Nat → Nat} {x1 s0 : Int32} {a0 : Nat} (h : ((s0 = 0) → Q none (Mm sz sl K L κ ρ)) ∧ (¬ (s0 = 0) → ((K a0 = 11) ∧ ∃ κ' ρ', ev 17 [.ref a0] (Mm sz sl K L κ ρ) none (Mm sz sl K L κ' ρ') ∧ wpE (xT 30) ev Q (89, [(0, .ref a0), (1, .int x1)], [], Mm sz sl K L κ' ρ')))) : wpE (xT 30) ev Q (82, [(0, .ref a0), (1, .int x1)], [.int s0], Mm sz sl K L κ ρ) := by
  refine p_if (cc3 c30_82) (fun c => ?_) (fun c => ?_)
  · have h := h.1 c
    refine p_lc (ls' := []) c30_148 rfl rfl ?_
    exact p_rv (cct c30_148 rfl) h
  · have h := h.2 c
    refine p_ald (cc3 c30_85) rfl ?_
    obtain ⟨g1, h⟩ := h
    obtain ⟨κ', ρ', he, h⟩ := h
    exact p_callV (cc3 c30_86) (Nat.le_of_ble_eq_true rfl) rfl rfl (Nat.le_of_ble_eq_true rfl) g1 he h
theorem B30_89 {ev : xV} {Q : Option Value → xM → Prop} {sz sl : Nat} {K L : Nat → Nat} {κ : Nat → Nat → Int32} {ρ : Nat → Nat → Nat} {x1 : Int32} {a0 : Nat} (h : ((K a0 = 11) ∧ ∃ κ' ρ', ev 30 [.ref a0, .int (x1 + 1)] (Mm sz sl K L κ ρ) none (Mm sz sl K L κ' ρ') ∧ wpE (xT 30) ev Q (96, [(0, .ref a0), (1, .int x1)], [], Mm sz sl K L κ' ρ'))) : wpE (xT 30) ev Q (89, [(0, .ref a0), (1, .int x1)], [], Mm sz sl K L κ ρ) := by
  refine p_ald (cc3 c30_89) rfl ?_
  refine p_ild (cc3 c30_90) rfl ?_
  refine p_push (cc3 c30_91) ?_
  refine p_bin (cc3 c30_92) ?_
  obtain ⟨g1, h⟩ := h
  obtain ⟨κ', ρ', he, h⟩ := h
  exact p_callV (cc3 c30_93) (Nat.le_of_ble_eq_true rfl) rfl rfl (Nat.le_of_ble_eq_true rfl) g1 he h
theorem B30_96 {ev : xV} {Q : Option Value → xM → Prop} {sz sl : Nat} {K L : Nat → Nat} {κ : Nat → Nat → Int32} {ρ : Nat → Nat → Nat} {x1 : Int32} {a0 : Nat} (h : ((K a0 = 11) ∧ ∃ κ' ρ', ev 31 [.ref a0, .int ((-300))] (Mm sz sl K L κ ρ) none (Mm sz sl K L κ' ρ') ∧ wpE (xT 30) ev Q (103, [(0, .ref a0), (1, .int x1)], [], Mm sz sl K L κ' ρ'))) : wpE (xT 30) ev Q (96, [(0, .ref a0), (1, .int x1)], [], Mm sz sl K L κ ρ) := by
  refine p_ald (cc3 c30_96) rfl ?_
  refine p_push (cc3 c30_97) ?_
  obtain ⟨g1, h⟩ := h
  obtain ⟨κ', ρ', he, h⟩ := h
  exact p_callV (cc3 c30_100) (Nat.le_of_ble_eq_true rfl) rfl rfl (Nat.le_of_ble_eq_true rfl) g1 he h
theorem B30_103 {ev : xV} {Q : Option Value → xM → Prop} {sz sl : Nat} {K L : Nat → Nat} {κ : Nat → Nat → Int32} {ρ : Nat → Nat → Nat} {x1 : Int32} {a0 : Nat} (h : Q none (Mm sz sl K L κ ρ)) : wpE (xT 30) ev Q (103, [(0, .ref a0), (1, .int x1)], [], Mm sz sl K L κ ρ) := by
  refine p_goto (cc3 c30_103) ?_
  refine p_lc (ls' := []) c30_148 rfl rfl ?_
  exact p_rv (cct c30_148 rfl) h
theorem B30_120 {ev : xV} {Q : Option Value → xM → Prop} {sz sl : Nat} {K L : Nat → Nat} {κ : Nat → Nat → Int32} {ρ : Nat → Nat → Nat} {x1 s0 : Int32} {a0 : Nat} (h : ((s0 = 0) → Q none (Mm sz sl K L κ ρ)) ∧ (¬ (s0 = 0) → ((K a0 = 11) ∧ ∃ κ' ρ', ev 17 [.ref a0] (Mm sz sl K L κ ρ) none (Mm sz sl K L κ' ρ') ∧ wpE (xT 30) ev Q (127, [(0, .ref a0), (1, .int x1)], [], Mm sz sl K L κ' ρ')))) : wpE (xT 30) ev Q (120, [(0, .ref a0), (1, .int x1)], [.int s0], Mm sz sl K L κ ρ) := by
  refine p_if (cc3 c30_120) (fun c => ?_) (fun c => ?_)
  · have h := h.1 c
    refine p_lc (ls' := []) c30_148 rfl rfl ?_
    exact p_rv (cct c30_148 rfl) h
  · have h := h.2 c
    refine p_ald (cc3 c30_123) rfl ?_
    obtain ⟨g1, h⟩ := h
    obtain ⟨κ', ρ', he, h⟩ := h
    exact p_callV (cc3 c30_124) (Nat.le_of_ble_eq_true rfl) rfl rfl (Nat.le_of_ble_eq_true rfl) g1 he h
theorem B30_127 {ev : xV} {Q : Option Value → xM → Prop} {sz sl : Nat} {K L : Nat → Nat} {κ : Nat → Nat → Int32} {ρ : Nat → Nat → Nat} {x1 : Int32} {a0 : Nat} (h : ((K a0 = 11) ∧ ∃ κ' ρ', ev 29 [.ref a0, .int 0, .int (x1 + 1)] (Mm sz sl K L κ ρ) none (Mm sz sl K L κ' ρ') ∧ wpE (xT 30) ev Q (135, [(0, .ref a0), (1, .int x1)], [], Mm sz sl K L κ' ρ'))) : wpE (xT 30) ev Q (127, [(0, .ref a0), (1, .int x1)], [], Mm sz sl K L κ ρ) := by
  refine p_ald (cc3 c30_127) rfl ?_
  refine p_push (cc3 c30_128) ?_
  refine p_ild (cc3 c30_129) rfl ?_
  refine p_push (cc3 c30_130) ?_
  refine p_bin (cc3 c30_131) ?_
  obtain ⟨g1, h⟩ := h
  obtain ⟨κ', ρ', he, h⟩ := h
  exact p_callV (cc3 c30_132) (Nat.le_of_ble_eq_true rfl) rfl rfl (Nat.le_of_ble_eq_true rfl) g1 he h
theorem B30_135 {ev : xV} {Q : Option Value → xM → Prop} {sz sl : Nat} {K L : Nat → Nat} {κ : Nat → Nat → Int32} {ρ : Nat → Nat → Nat} {x1 : Int32} {a0 : Nat} (h : ((K a0 = 11) ∧ ∃ κ' ρ', ev 27 [.ref a0, .int 41] (Mm sz sl K L κ ρ) none (Mm sz sl K L κ' ρ') ∧ wpE (xT 30) ev Q (141, [(0, .ref a0), (1, .int x1)], [], Mm sz sl K L κ' ρ'))) : wpE (xT 30) ev Q (135, [(0, .ref a0), (1, .int x1)], [], Mm sz sl K L κ ρ) := by
  refine p_ald (cc3 c30_135) rfl ?_
  refine p_push (cc3 c30_136) ?_
  obtain ⟨g1, h⟩ := h
  obtain ⟨κ', ρ', he, h⟩ := h
  exact p_callV (cc3 c30_138) (Nat.le_of_ble_eq_true rfl) rfl rfl (Nat.le_of_ble_eq_true rfl) g1 he h
theorem B30_141 {ev : xV} {Q : Option Value → xM → Prop} {sz sl : Nat} {K L : Nat → Nat} {κ : Nat → Nat → Int32} {ρ : Nat → Nat → Nat} {x1 : Int32} {a0 : Nat} (h : Q none (Mm sz sl K L κ ρ)) : wpE (xT 30) ev Q (141, [(0, .ref a0), (1, .int x1)], [], Mm sz sl K L κ ρ) := by
  refine p_goto (cc3 c30_141) ?_
  refine p_lc (ls' := []) c30_148 rfl rfl ?_
  exact p_rv (cct c30_148 rfl) h
theorem B30_148 {ev : xV} {Q : Option Value → xM → Prop} {sz sl : Nat} {K L : Nat → Nat} {κ : Nat → Nat → Int32} {ρ : Nat → Nat → Nat} (h : Q none (Mm sz sl K L κ ρ)) : wpE (xT 30) ev Q (148, [], [], Mm sz sl K L κ ρ) := by
  exact p_rv (cct c30_148 rfl) h
theorem B31_0 {ev : xV} {Q : Option Value → xM → Prop} {sz sl : Nat} {K L : Nat → Nat} {κ : Nat → Nat → Int32} {ρ : Nat → Nat → Nat} {x1 : Int32} {a0 : Nat} (h : (K a0 = 11) ∧ ((160 ≤ (κ a0 1)) → Q none (Mm sz sl K L κ ρ)) ∧ (¬ (160 ≤ (κ a0 1)) → (¬ ρ a0 0 = 0) ∧ (K (ρ a0 0) = 20) ∧ (vp_in (κ a0 1) (L (ρ a0 0))) ∧ Q none (Mm sz sl K L (U (U κ (ρ a0 0) (κ a0 1).toNatClampNeg x1) a0 1 (((U κ (ρ a0 0) (κ a0 1).toNatClampNeg x1) a0 1) + 1)) ρ))) : wpE (xT 31) ev Q (0, [(0, .ref a0), (1, .int x1)], [], Mm sz sl K L κ ρ) := by
  refine p_ald (cc3 c31_0) rfl ?_
  obtain ⟨g1, h⟩ := h
  refine p_geti (cc3 c31_1) g1 rfl ?_
  refine p_push (cc3 c31_4) ?_
  refine p_icmp (cc3 c31_7) (fun c => ?_) (fun c => ?_)
  · have h := h.1 c
    refine p_lc (ls' := []) c31_30 rfl rfl ?_
    exact p_rv (cct c31_30 rfl) h
  · have h := h.2 c
    refine p_ald (cc3 c31_10) rfl ?_
    obtain ⟨g2, h⟩ := h
    refine p_getp (cc3 c31_11) g1 rfl g2 ?_
    refine p_ald (cc3 c31_14) rfl ?_
    refine p_geti (cc3 c31_15) g1 rfl ?_
    refine p_ild (cc3 c31_18) rfl ?_
    obtain ⟨g3, h⟩ := h
    obtain ⟨g4, h⟩ := h
    refine p_asti (cc3 c31_19) g3 g4 mm_xpi ?_
    refine p_ald (cc3 c31_20) rfl ?_
    refine p_dup (cc3 c31_21) rfl ?_
    refine p_geti (cc3 c31_22) g1 rfl ?_
    refine p_push (cc3 c31_25) ?_
    refine p_bin (cc3 c31_26) ?_
    refine p_puti (cc3 c31_27) g1 mm_xpi ?_
    refine p_lc (ls' := []) c31_30 rfl rfl ?_
    exact p_rv (cct c31_30 rfl) h
theorem B32_0 {ev : xV} {Q : Option Value → xM → Prop} {sz sl : Nat} {K L : Nat → Nat} {κ : Nat → Nat → Int32} {ρ : Nat → Nat → Nat} {x1 : Int32} {a0 : Nat} (h : ((x1 < 5) → wpE (xT 32) ev Q (9, [(1, .int x1)], [], Mm sz sl K L κ ρ)) ∧ (¬ (x1 < 5) → ((K a0 = 11) ∧ ∃ κ' ρ', ev 28 [.ref a0] (Mm sz sl K L κ ρ) none (Mm sz sl K L κ' ρ') ∧ wpE (xT 32) ev Q (9, [(1, .int x1)], [], Mm sz sl K L κ' ρ')))) : wpE (xT 32) ev Q (0, [(0, .ref a0), (1, .int x1)], [], Mm sz sl K L κ ρ) := by
  refine p_ild (cc3 c32_0) rfl ?_
  refine p_push (cc3 c32_1) ?_
  refine p_icmp (cc3 c32_2) (fun c => ?_) (fun c => ?_)
  · have h := h.1 c
    exact p_lc (ls' := [(1, .int x1)]) c32_9 rfl rfl h
  · have h := h.2 c
    refine p_ald (cc3 c32_5) rfl ?_
    obtain ⟨g1, h⟩ := h
    obtain ⟨κ', ρ', he, h⟩ := h
    exact p_callV (cc3 c32_6) (Nat.le_of_ble_eq_true rfl) rfl rfl (Nat.le_of_ble_eq_true rfl) g1 he (p_lc (ls' := [(1, .int x1)]) c32_9 rfl rfl h)
theorem B32_9 {ev : xV} {Q : Option Value → xM → Prop} {sz sl : Nat} {K L : Nat → Nat} {κ : Nat → Nat → Int32} {ρ : Nat → Nat → Nat} {x1 : Int32} (h : ((5 ≤ x1) → Q (some (.int 0)) (Mm sz sl K L κ ρ)) ∧ (¬ (5 ≤ x1) → Q (some (.int 1)) (Mm sz sl K L κ ρ))) : wpE (xT 32) ev Q (9, [(1, .int x1)], [], Mm sz sl K L κ ρ) := by
  refine p_ild (cct c32_9 rfl) rfl ?_
  refine p_push (cc3 c32_10) ?_
  refine p_icmp (cc3 c32_11) (fun c => ?_) (fun c => ?_)
  · have h := h.1 c
    refine p_push (cc3 c32_18) ?_
    refine p_lc (ls' := []) c32_19 rfl rfl ?_
    exact p_ri (cct c32_19 rfl) (by decide) h
  · have h := h.2 c
    refine p_push (cc3 c32_14) ?_
    refine p_goto (cc3 c32_15) ?_
    refine p_lc (ls' := []) c32_19 rfl rfl ?_
    exact p_ri (cct c32_19 rfl) (by decide) h
theorem B33_0 {ev : xV} {Q : Option Value → xM → Prop} {sz sl : Nat} {K L : Nat → Nat} {κ : Nat → Nat → Int32} {ρ : Nat → Nat → Nat} {x0 : Int32} (h : ((x0 = 42) → Q (some (.int 4)) (Mm sz sl K L κ ρ)) ∧ (¬ (x0 = 42) → ((x0 = 43) → Q (some (.int 3)) (Mm sz sl K L κ ρ)) ∧ (¬ (x0 = 43) → ((x0 = 45) → Q (some (.int 3)) (Mm sz sl K L κ ρ)) ∧ (¬ (x0 = 45) → ((x0 = 60) → Q (some (.int 2)) (Mm sz sl K L κ ρ)) ∧ (¬ (x0 = 60) → ((x0 = 61) → Q (some (.int 2)) (Mm sz sl K L κ ρ)) ∧ (¬ (x0 = 61) → ((x0 = 202) → Q (some (.int 0)) (Mm sz sl K L κ ρ)) ∧ (¬ (x0 = 202) → ((x0 = 203) → Q (some (.int 1)) (Mm sz sl K L κ ρ)) ∧ (¬ (x0 = 203) → Q (some (.int ((-1)))) (Mm sz sl K L κ ρ))))))))) : wpE (xT 33) ev Q (0, [(0, .int x0)], [], Mm sz sl K L κ ρ) := by
  refine p_ild (cc3 c33_0) rfl ?_
  refine p_sw (cc3 c33_1) ?_
  refine ⟨fun c => ?_, fun c => ?_⟩
  · have h := h.1 c
    refine p_push (cc3 c33_76) ?_
    exact p_ri (cc3 c33_77) trivial h
  · have h := h.2 c
    refine ⟨fun c => ?_, fun c => ?_⟩
    · have h := h.1 c
      refine p_push (cc3 c33_74) ?_
      exact p_ri (cc3 c33_75) trivial h
    · have h := h.2 c
      refine ⟨fun c => ?_, fun c => ?_⟩
      · have h := h.1 c
        refine p_push (cc3 c33_74) ?_
        exact p_ri (cc3 c33_75) trivial h
      · have h := h.2 c
        refine ⟨fun c => ?_, fun c => ?_⟩
        · have h := h.1 c
          refine p_push (cc3 c33_72) ?_
          exact p_ri (cc3 c33_73) trivial h
        · have h := h.2 c
          refine ⟨fun c => ?_, fun c => ?_⟩
          · have h := h.1 c
            refine p_push (cc3 c33_72) ?_
            exact p_ri (cc3 c33_73) trivial h
          · have h := h.2 c
            refine ⟨fun c => ?_, fun c => ?_⟩
            · have h := h.1 c
              refine p_push (cc3 c33_68) ?_
              exact p_ri (cc3 c33_69) trivial h
            · have h := h.2 c
              refine ⟨fun c => ?_, fun c => ?_⟩
              · have h := h.1 c
                refine p_push (cc3 c33_70) ?_
                exact p_ri (cc3 c33_71) trivial h
              · have h := h.2 c
                refine p_push (cc3 c33_78) ?_
                exact p_ri (cc3 c33_79) trivial h
