def m_flz (A : Nat → Int → Int) (b s st : Int) : Nat → Int → Int → Int × (Nat → Int → Int)
  | 0, _, came => (came, A)
  | r + 1, k, came => if st < 0 ∨ A 44 s - k - 1 < st then (-12, A) else m_flz (m_flaw_n A b (A 45 (40 * s + st + k))) b s st r (k + 1) (came + (if m_flaw_r A b (A 45 (40 * s + st + k)) < 0 then 0 else 1))
abbrev m_flaws_ok (A : Nat → Int → Int) (b s how n : Int) : Prop := (0 ≤ b ∧ b ≤ A 0 8 - 1) ∧ (0 ≤ s ∧ s ≤ 3) ∧ (0 ≤ how ∧ how ≤ 2) ∧ (0 ≤ n ∧ n ≤ 20)
def m_flaws (A : Nat → Int → Int) (b s how st n : Int) : Int × (Nat → Int → Int) := if m_flaws_ok A b s how n then (if 0 ≤ A 43 s ∧ ¬ A 43 s = how then (-13, A) else if A 43 s < 0 then (-11, A) else m_flz A b s st n.toNat 0 0) else (-2, A)
theorem m_flaw_row {A : Nat → Int → Int} {b x : Int} {c : Nat} (h1 : ¬ c = 9) (h2 : ¬ c = 10) : m_flaw_n A b x c = A c := by
  funext j
  unfold m_flaw_n
  split
  · rw [UA_c h1, UA_c h2]
  · rfl
theorem m_flaw_rb {A : Nat → Int → Int} {b x : Int} (hB : BoltsOK A) : -4 ≤ m_flaw_r A b x ∧ m_flaw_r A b x ≤ 10 := by
  unfold m_flaw_r
  split
  · rename_i h
    have := (hB.2 b (by omega) (by omega)).2.2
    split <;> omega
  · omega
theorem m_flaw_bolts {A : Nat → Int → Int} {b x : Int} (hB : BoltsOK A) : BoltsOK (m_flaw_n A b x) := by
  have r0 : m_flaw_n A b x 0 = A 0 := m_flaw_row (by decide) (by decide)
  have r7 : m_flaw_n A b x 7 = A 7 := m_flaw_row (by decide) (by decide)
  have r8 : m_flaw_n A b x 8 = A 8 := m_flaw_row (by decide) (by decide)
  refine ⟨by rw [r0]; exact hB.1, fun q q1 q2 => ?_⟩
  rw [r0] at q2
  obtain ⟨s1, s2, s3⟩ := hB.2 q q1 q2
  refine ⟨by rw [r0, r7]; exact s1, by rw [r8]; exact s2, ?_⟩
  unfold m_flaw_n
  split
  · rename_i h
    unfold UA
    split
    · rename_i h2
      have := (hB.2 b (by omega) (by omega)).2.2
      omega
    · rw [if_neg (by omega)]; exact s3
  · exact s3
theorem V199_0 {d : Nat} (hd : 3 ≤ d) {Q : Option Value → xM → Prop} {m : Nat} {Φ : (Nat → Nat → Int32) → xM} (hΦ : MLaw m Φ) {A : Nat → Int → Int} (hR : RG A) {x1 x2 x3 x4 x5 : Int} (rr : Rg x1 ∧ Rg x2 ∧ Rg x3 ∧ Rg x4 ∧ Rg x5) (h : (0 ≤ A 0 8) ∧ ((¬ (0 ≤ x1 ∧ x1 ≤ A 0 8 - 1) → Q (some (.int (iz (-2)))) (Φ (mI A))) ∧ ((0 ≤ x1 ∧ x1 ≤ A 0 8 - 1) → ((¬ (0 ≤ x2 ∧ x2 ≤ 3) → Q (some (.int (iz (-2)))) (Φ (mI A))) ∧ ((0 ≤ x2 ∧ x2 ≤ 3) → ((¬ (0 ≤ x3 ∧ x3 ≤ 2) → Q (some (.int (iz (-2)))) (Φ (mI A))) ∧ ((0 ≤ x3 ∧ x3 ≤ 2) → ((¬ (0 ≤ x5 ∧ x5 ≤ 20) → Q (some (.int (iz (-2)))) (Φ (mI A))) ∧ ((0 ≤ x5 ∧ x5 ≤ 20) → (0 ≤ x2 ∧ x2 < 4) ∧ ((((A 43 x2) < 0) → (((0 ≤ (A 43 x2)) → wpE (xT 199) (xev xT d) Q (81, [(0, .ref m), (1, .int (iz x1)), (2, .int (iz x2)), (4, .int (iz x4)), (5, .int (iz x5)), (6, .int (iz 0)), (7, .int (iz 0))], [], Φ (mI A))) ∧ (¬ (0 ≤ (A 43 x2)) → Q (some (.int (iz (-11)))) (Φ (mI A))))) ∧ (¬ ((A 43 x2) < 0) → ((((A 43 x2) = x3) → (((0 ≤ (A 43 x2)) → wpE (xT 199) (xev xT d) Q (81, [(0, .ref m), (1, .int (iz x1)), (2, .int (iz x2)), (4, .int (iz x4)), (5, .int (iz x5)), (6, .int (iz 0)), (7, .int (iz 0))], [], Φ (mI A))) ∧ (¬ (0 ≤ (A 43 x2)) → Q (some (.int (iz (-11)))) (Φ (mI A))))) ∧ (¬ ((A 43 x2) = x3) → Q (some (.int (iz (-13)))) (Φ (mI A))))))))))))))) : wpE (xT 199) (xev xT d) Q (0, [(0, .ref m), (1, .int (iz x1)), (2, .int (iz x2)), (3, .int (iz x3)), (4, .int (iz x4)), (5, .int (iz x5))], [], Φ (mI A)) := by
  refine p_ald (cc3 c199_0) rfl ?_
  refine p_ild (cc3 c199_1) rfl ?_
  obtain ⟨g1, h⟩ := h
  refine p_callV (cc3 c199_2) (Nat.le_of_ble_eq_true rfl) rfl rfl (Nat.le_of_ble_eq_true rfl) (ml_kd hΦ) (S143 (Nat.le_trans (by decide) hd) hΦ hR rr.1 g1) ?_
  refine i_ifB (cc3 c199_5) (fun c => ?_) (fun c => ?_)
  · have h := h.1 c
    refine p_lc (ls' := []) c199_38 rfl rfl ?_
    refine i_push (n := (-2)) (cct c199_38 rfl) zl_m2 ?_
    exact p_ri (cc3 c199_40) trivial h
  · have h := h.2 c
    refine p_ald (cc3 c199_8) rfl ?_
    refine p_ild (cc3 c199_9) rfl ?_
    refine p_callV (cc3 c199_10) (Nat.le_of_ble_eq_true rfl) rfl rfl (Nat.le_of_ble_eq_true rfl) (ml_kd hΦ) (S197 (Nat.le_trans (by decide) hd) hΦ hR rr.2.1) ?_
    refine i_ifB (cc3 c199_13) (fun c => ?_) (fun c => ?_)
    · have h := h.1 c
      refine p_lc (ls' := []) c199_38 rfl rfl ?_
      refine i_push (n := (-2)) (cct c199_38 rfl) zl_m2 ?_
      exact p_ri (cc3 c199_40) trivial h
    · have h := h.2 c
      refine p_ald (cc3 c199_16) rfl ?_
      refine p_ild (cc3 c199_17) rfl ?_
      refine i_push (n := 0) (cc3 c199_18) zl_0 ?_
      refine i_push (n := 2) (cc3 c199_19) zl_2 ?_
      refine p_callV (cc3 c199_20) (Nat.le_of_ble_eq_true rfl) rfl rfl (Nat.le_of_ble_eq_true rfl) (ml_kd hΦ) (S129 (Nat.le_trans (by decide) hd) hΦ hR ⟨rr.2.2.1, (by decide), (by decide)⟩) ?_
      refine i_ifB (cc3 c199_23) (fun c => ?_) (fun c => ?_)
      · have h := h.1 c
        refine p_lc (ls' := []) c199_38 rfl rfl ?_
        refine i_push (n := (-2)) (cct c199_38 rfl) zl_m2 ?_
        exact p_ri (cc3 c199_40) trivial h
      · have h := h.2 c
        refine p_ald (cc3 c199_26) rfl ?_
        refine p_ild (cc3 c199_27) rfl ?_
        refine i_push (n := 0) (cc3 c199_29) zl_0 ?_
        refine i_push (n := 20) (cc3 c199_30) zl_20 ?_
        refine p_callV (cc3 c199_32) (Nat.le_of_ble_eq_true rfl) rfl rfl (Nat.le_of_ble_eq_true rfl) (ml_kd hΦ) (S129 (Nat.le_trans (by decide) hd) hΦ hR ⟨rr.2.2.2.2, (by decide), (by decide)⟩) ?_
        refine i_ifB (cc3 c199_35) (fun c => ?_) (fun c => ?_)
        · have h := h.1 c
          refine p_lc (ls' := []) c199_38 rfl rfl ?_
          refine i_push (n := (-2)) (cct c199_38 rfl) zl_m2 ?_
          exact p_ri (cc3 c199_40) trivial h
        · have h := h.2 c
          refine p_ald (cc3 c199_41) rfl ?_
          refine pm_getp hΦ (cc3 c199_42) (c := 43) rfl (by decide) ?_
          refine p_ild (cc3 c199_45) rfl ?_
          obtain ⟨g2, h⟩ := h
          refine n_aldi hΦ (c := 43) (n := 4) (ni := 4) (cc3 c199_46) (by decide) rfl rfl rfl (by decide) g2 (v := A 43 x2) rfl ?_
          refine i_if (c' := (A 43 x2) < 0) (cc3 c199_47) (c_lt0 (hR 43 x2)) (fun c => ?_) (fun c => ?_)
          · have h := h.1 c
            refine p_lc (ls' := [(0, .ref m), (1, .int (iz x1)), (2, .int (iz x2)), (4, .int (iz x4)), (5, .int (iz x5))]) c199_63 rfl rfl ?_
            refine p_ald (cct c199_63 rfl) rfl ?_
            refine pm_getp hΦ (cc3 c199_64) (c := 43) rfl (by decide) ?_
            refine p_ild (cc3 c199_67) rfl ?_
            refine n_aldi hΦ (c := 43) (n := 4) (ni := 4) (cc3 c199_68) (by decide) rfl rfl rfl (by decide) g2 (v := A 43 x2) rfl ?_
            refine i_if (c' := 0 ≤ (A 43 x2)) (cc3 c199_69) (c_ge0 (hR 43 x2)) (fun c => ?_) (fun c => ?_)
            · have h := h.1 c
              refine i_push (n := 0) (cc3 c199_75) zl_0 ?_
              refine p_ist (ls' := [(6, .int (iz 0)), (0, .ref m), (1, .int (iz x1)), (2, .int (iz x2)), (4, .int (iz x4)), (5, .int (iz x5))]) (cc3 c199_76) (by decide) rfl ?_
              refine i_push (n := 0) (cc3 c199_78) zl_0 ?_
              refine p_ist (ls' := [(7, .int (iz 0)), (6, .int (iz 0)), (0, .ref m), (1, .int (iz x1)), (2, .int (iz x2)), (4, .int (iz x4)), (5, .int (iz x5))]) (cc3 c199_79) (by decide) rfl ?_
              exact p_lc (ls' := [(0, .ref m), (1, .int (iz x1)), (2, .int (iz x2)), (4, .int (iz x4)), (5, .int (iz x5)), (6, .int (iz 0)), (7, .int (iz 0))]) c199_81 rfl rfl h
            · have h := h.2 c
              refine i_push (n := (-11)) (cc3 c199_72) zl_m11 ?_
              exact p_ri (cc3 c199_74) trivial h
          · have h := h.2 c
            refine p_ald (cc3 c199_50) rfl ?_
            refine pm_getp hΦ (cc3 c199_51) (c := 43) rfl (by decide) ?_
            refine p_ild (cc3 c199_54) rfl ?_
            refine n_aldi hΦ (c := 43) (n := 4) (ni := 4) (cc3 c199_55) (by decide) rfl rfl rfl (by decide) g2 (v := A 43 x2) rfl ?_
            refine p_ild (cc3 c199_56) rfl ?_
            refine i_icmp (c' := (A 43 x2) = x3) (cc3 c199_57) (iz_inj (hR 43 x2) rr.2.2.1) (fun c => ?_) (fun c => ?_)
            · have h := h.1 c
              refine p_lc (ls' := [(0, .ref m), (1, .int (iz x1)), (2, .int (iz x2)), (4, .int (iz x4)), (5, .int (iz x5))]) c199_63 rfl rfl ?_
              refine p_ald (cct c199_63 rfl) rfl ?_
              refine pm_getp hΦ (cc3 c199_64) (c := 43) rfl (by decide) ?_
              refine p_ild (cc3 c199_67) rfl ?_
              refine n_aldi hΦ (c := 43) (n := 4) (ni := 4) (cc3 c199_68) (by decide) rfl rfl rfl (by decide) g2 (v := A 43 x2) rfl ?_
              refine i_if (c' := 0 ≤ (A 43 x2)) (cc3 c199_69) (c_ge0 (hR 43 x2)) (fun c => ?_) (fun c => ?_)
              · have h := h.1 c
                refine i_push (n := 0) (cc3 c199_75) zl_0 ?_
                refine p_ist (ls' := [(6, .int (iz 0)), (0, .ref m), (1, .int (iz x1)), (2, .int (iz x2)), (4, .int (iz x4)), (5, .int (iz x5))]) (cc3 c199_76) (by decide) rfl ?_
                refine i_push (n := 0) (cc3 c199_78) zl_0 ?_
                refine p_ist (ls' := [(7, .int (iz 0)), (6, .int (iz 0)), (0, .ref m), (1, .int (iz x1)), (2, .int (iz x2)), (4, .int (iz x4)), (5, .int (iz x5))]) (cc3 c199_79) (by decide) rfl ?_
                exact p_lc (ls' := [(0, .ref m), (1, .int (iz x1)), (2, .int (iz x2)), (4, .int (iz x4)), (5, .int (iz x5)), (6, .int (iz 0)), (7, .int (iz 0))]) c199_81 rfl rfl h
              · have h := h.2 c
                refine i_push (n := (-11)) (cc3 c199_72) zl_m11 ?_
                exact p_ri (cc3 c199_74) trivial h
            · have h := h.2 c
              refine i_push (n := (-13)) (cc3 c199_60) zl_m13 ?_
              exact p_ri (cc3 c199_62) trivial h
theorem V199_81 {d : Nat} (hd : 3 ≤ d) {Q : Option Value → xM → Prop} {m : Nat} {Φ : (Nat → Nat → Int32) → xM} (hΦ : MLaw m Φ) {A : Nat → Int → Int} (hR : RG A) {x1 x2 x4 x5 x6 x7 : Int} (rr : Rg x1 ∧ Rg x2 ∧ Rg x4 ∧ Rg x5 ∧ Rg x6 ∧ Rg x7) (h : (((x5 ≤ x7) → Q (some (.int (iz x6))) (Φ (mI A))) ∧ (¬ (x5 ≤ x7) → (((x4 < 0) → Q (some (.int (iz (-12)))) (Φ (mI A))) ∧ (¬ (x4 < 0) → (0 ≤ x2 ∧ x2 < 4) ∧ (Rg ((A 44 x2) - x7)) ∧ (Rg (((A 44 x2) - x7) - 1)) ∧ (((x4 ≤ (((A 44 x2) - x7) - 1)) → (Rg (40 * x2)) ∧ (Rg ((40 * x2) + x4)) ∧ (Rg (((40 * x2) + x4) + x7)) ∧ (0 ≤ (((40 * x2) + x4) + x7) ∧ (((40 * x2) + x4) + x7) < 160) ∧ (BoltsOK A) ∧ (Rg (m_flaw_r A x1 (A 45 (((40 * x2) + x4) + x7)))) ∧ ((((m_flaw_r A x1 (A 45 (((40 * x2) + x4) + x7))) < 0) → (Rg (x6 + 0)) ∧ (Rg (x7 + 1)) ∧ wpE (xT 199) (xev xT d) Q (81, [(0, .ref m), (1, .int (iz x1)), (2, .int (iz x2)), (4, .int (iz x4)), (5, .int (iz x5)), (6, .int (iz (x6 + 0))), (7, .int (iz (x7 + 1)))], [], Φ (mI (m_flaw_n A x1 (A 45 (((40 * x2) + x4) + x7)))))) ∧ (¬ ((m_flaw_r A x1 (A 45 (((40 * x2) + x4) + x7))) < 0) → (Rg (x6 + 1)) ∧ (Rg (x7 + 1)) ∧ wpE (xT 199) (xev xT d) Q (81, [(0, .ref m), (1, .int (iz x1)), (2, .int (iz x2)), (4, .int (iz x4)), (5, .int (iz x5)), (6, .int (iz (x6 + 1))), (7, .int (iz (x7 + 1)))], [], Φ (mI (m_flaw_n A x1 (A 45 (((40 * x2) + x4) + x7)))))))) ∧ (¬ (x4 ≤ (((A 44 x2) - x7) - 1)) → Q (some (.int (iz (-12)))) (Φ (mI A))))))))) : wpE (xT 199) (xev xT d) Q (81, [(0, .ref m), (1, .int (iz x1)), (2, .int (iz x2)), (4, .int (iz x4)), (5, .int (iz x5)), (6, .int (iz x6)), (7, .int (iz x7))], [], Φ (mI A)) := by
  refine p_ild (cct c199_81 rfl) rfl ?_
  refine p_ild (cc3 c199_83) rfl ?_
  refine i_icmp (c' := x5 ≤ x7) (cc3 c199_85) (iz_le rr.2.2.2.1 rr.2.2.2.2.2) (fun c => ?_) (fun c => ?_)
  · have h := h.1 c
    refine p_ild (cc3 c199_151) rfl ?_
    exact p_ri (cc3 c199_153) trivial h
  · have h := h.2 c
    refine p_ild (cc3 c199_88) rfl ?_
    refine i_if (c' := x4 < 0) (cc3 c199_90) (c_lt0 rr.2.2.1) (fun c => ?_) (fun c => ?_)
    · have h := h.1 c
      refine p_lc (ls' := []) c199_109 rfl rfl ?_
      refine i_push (n := (-12)) (cct c199_109 rfl) zl_m12 ?_
      exact p_ri (cc3 c199_111) trivial h
    · have h := h.2 c
      refine p_ild (cc3 c199_93) rfl ?_
      refine p_ald (cc3 c199_95) rfl ?_
      refine pm_getp hΦ (cc3 c199_96) (c := 44) rfl (by decide) ?_
      refine p_ild (cc3 c199_99) rfl ?_
      obtain ⟨g1, h⟩ := h
      refine n_aldi hΦ (c := 44) (n := 4) (ni := 4) (cc3 c199_100) (by decide) rfl rfl rfl (by decide) g1 (v := A 44 x2) rfl ?_
      refine p_ild (cc3 c199_101) rfl ?_
      obtain ⟨g2, h⟩ := h
      refine (fun _ : Rg ((A 44 x2) - x7) => i_sub (cc3 c199_103) ?_) g2
      refine i_push (n := 1) (cc3 c199_104) zl_1 ?_
      obtain ⟨g3, h⟩ := h
      refine (fun _ : Rg (((A 44 x2) - x7) - 1) => i_sub (cc3 c199_105) ?_) g3
      refine i_icmp (c' := x4 ≤ (((A 44 x2) - x7) - 1)) (cc3 c199_106) (iz_le rr.2.2.1 g3) (fun c => ?_) (fun c => ?_)
      · have h := h.1 c
        refine p_ild (cc3 c199_112) rfl ?_
        refine p_ald (cc3 c199_114) rfl ?_
        refine p_ild (cc3 c199_115) rfl ?_
        refine p_ald (cc3 c199_116) rfl ?_
        refine pm_getp hΦ (cc3 c199_117) (c := 45) rfl (by decide) ?_
        refine i_push (n := 40) (cc3 c199_120) zl_40 ?_
        refine p_ild (cc3 c199_122) rfl ?_
        obtain ⟨g4, h⟩ := h
        refine (fun _ : Rg (40 * x2) => i_mul (cc3 c199_123) ?_) g4
        refine p_ild (cc3 c199_124) rfl ?_
        obtain ⟨g5, h⟩ := h
        refine (fun _ : Rg ((40 * x2) + x4) => i_add (cc3 c199_126) ?_) g5
        refine p_ild (cc3 c199_127) rfl ?_
        obtain ⟨g6, h⟩ := h
        refine (fun _ : Rg (((40 * x2) + x4) + x7) => i_add (cc3 c199_129) ?_) g6
        obtain ⟨g7, h⟩ := h
        refine n_aldi hΦ (c := 45) (n := 160) (ni := 160) (cc3 c199_130) (by decide) rfl rfl rfl (by decide) g7 (v := A 45 (((40 * x2) + x4) + x7)) rfl ?_
        obtain ⟨g8, h⟩ := h
        refine p_callV (cc3 c199_131) (Nat.le_of_ble_eq_true rfl) rfl rfl (Nat.le_of_ble_eq_true rfl) (ml_kd hΦ) (S142 (Nat.le_trans (by decide) hd) hΦ hR ⟨rr.1, (hR 45 (((40 * x2) + x4) + x7))⟩ g8) ?_
        obtain ⟨g9, h⟩ := h
        refine i_if (c' := (m_flaw_r A x1 (A 45 (((40 * x2) + x4) + x7))) < 0) (cc3 c199_134) (c_lt0 g9) (fun c => ?_) (fun c => ?_)
        · have h := h.1 c
          refine i_push (n := 0) (cc3 c199_141) zl_0 ?_
          refine p_lc (ls' := [(0, .ref m), (1, .int (iz x1)), (2, .int (iz x2)), (4, .int (iz x4)), (5, .int (iz x5)), (7, .int (iz x7))]) c199_142 rfl rfl ?_
          obtain ⟨g10, h⟩ := h
          refine (fun _ : Rg (x6 + 0) => i_add (cct c199_142 rfl) ?_) g10
          refine p_ist (ls' := [(6, .int (iz (x6 + 0))), (0, .ref m), (1, .int (iz x1)), (2, .int (iz x2)), (4, .int (iz x4)), (5, .int (iz x5)), (7, .int (iz x7))]) (cc3 c199_143) (by decide) rfl ?_
          obtain ⟨g11, h⟩ := h
          refine (fun _ : Rg (x7 + 1) => i_iinc (n := 1) (y := x7 + 1) (ls' := [(7, .int (iz (x7 + 1))), (6, .int (iz (x6 + 0))), (0, .ref m), (1, .int (iz x1)), (2, .int (iz x2)), (4, .int (iz x4)), (5, .int (iz x5))]) (cc3 c199_145) (by decide) rfl zl_1 (by first | rfl | omega) rfl ?_) g11
          refine p_goto (cc3 c199_148) ?_
          exact p_lc (ls' := [(0, .ref m), (1, .int (iz x1)), (2, .int (iz x2)), (4, .int (iz x4)), (5, .int (iz x5)), (6, .int (iz (x6 + 0))), (7, .int (iz (x7 + 1)))]) c199_81 rfl rfl h
        · have h := h.2 c
          refine i_push (n := 1) (cc3 c199_137) zl_1 ?_
          refine p_goto (cc3 c199_138) ?_
          refine p_lc (ls' := [(0, .ref m), (1, .int (iz x1)), (2, .int (iz x2)), (4, .int (iz x4)), (5, .int (iz x5)), (7, .int (iz x7))]) c199_142 rfl rfl ?_
          obtain ⟨g10, h⟩ := h
          refine (fun _ : Rg (x6 + 1) => i_add (cct c199_142 rfl) ?_) g10
          refine p_ist (ls' := [(6, .int (iz (x6 + 1))), (0, .ref m), (1, .int (iz x1)), (2, .int (iz x2)), (4, .int (iz x4)), (5, .int (iz x5)), (7, .int (iz x7))]) (cc3 c199_143) (by decide) rfl ?_
          obtain ⟨g11, h⟩ := h
          refine (fun _ : Rg (x7 + 1) => i_iinc (n := 1) (y := x7 + 1) (ls' := [(7, .int (iz (x7 + 1))), (6, .int (iz (x6 + 1))), (0, .ref m), (1, .int (iz x1)), (2, .int (iz x2)), (4, .int (iz x4)), (5, .int (iz x5))]) (cc3 c199_145) (by decide) rfl zl_1 (by first | rfl | omega) rfl ?_) g11
          refine p_goto (cc3 c199_148) ?_
          exact p_lc (ls' := [(0, .ref m), (1, .int (iz x1)), (2, .int (iz x2)), (4, .int (iz x4)), (5, .int (iz x5)), (6, .int (iz (x6 + 1))), (7, .int (iz (x7 + 1)))]) c199_81 rfl rfl h
      · have h := h.2 c
        refine p_lc (ls' := []) c199_109 rfl rfl ?_
        refine i_push (n := (-12)) (cct c199_109 rfl) zl_m12 ?_
        exact p_ri (cc3 c199_111) trivial h

theorem L199 {d : Nat} (hd : 3 ≤ d) {Q : Option Value → xM → Prop} {m : Nat} {Φ : (Nat → Nat → Int32) → xM} (hΦ : MLaw m Φ) {b s st n : Int} (hb : Rg b) (hs : 0 ≤ s ∧ s ≤ 3) (hst : Rg st) (hn : 0 ≤ n ∧ n ≤ 20) :
    ∀ (r : Nat) (k came : Int) (A : Nat → Int → Int), RG A → BoltsOK A → (0 ≤ A 44 s ∧ A 44 s ≤ 40) → 0 ≤ k → k + r = n → 0 ≤ came → came ≤ k → Q (some (.int (iz (m_flz A b s st r k came).1))) (Φ (mI (m_flz A b s st r k came).2)) → wpE (xT 199) (xev xT d) Q (81, [(0, .ref m), (1, .int (iz b)), (2, .int (iz s)), (4, .int (iz st)), (5, .int (iz n)), (6, .int (iz came)), (7, .int (iz k))], [], Φ (mI A)) := by
  intro r
  induction r with
  | zero =>
    intro k came A hR hB hL h0 h1 h2 h3 hQ
    refine V199_81 hd hΦ hR (by omega) ?_
    exact ⟨fun _ => hQ, fun h => absurd (show n ≤ k by omega) h⟩
  | succ r ih =>
    intro k came A hR hB hL h0 h1 h2 h3 hQ
    unfold m_flz at hQ
    refine V199_81 hd hΦ hR (by omega) ?_
    refine ⟨fun h => absurd h (by omega), fun _ => ⟨fun c => ?_, fun c => ⟨by omega, by omega, by omega, fun c2 => ⟨by omega, by omega, by omega, by omega, hB, ?_⟩, fun c2 => ?_⟩⟩⟩
    · rw [if_pos (Or.inl c)] at hQ; exact hQ
    · rw [if_neg (by omega)] at hQ
      have rb := m_flaw_rb (b := b) (x := A 45 (40 * s + st + k)) hB
      have hL' : (0 ≤ m_flaw_n A b (A 45 (40 * s + st + k)) 44 s ∧ m_flaw_n A b (A 45 (40 * s + st + k)) 44 s ≤ 40) := by rw [m_flaw_row (by decide) (by decide)]; exact hL
      have hR' := m_flaw_rg (b := b) hR (hR 45 (40 * s + st + k)) hB
      refine ⟨by omega, fun c3 => ⟨by omega, by omega, ?_⟩, fun c3 => ⟨by omega, by omega, ?_⟩⟩
      · rw [if_pos c3] at hQ
        exact ih _ _ _ hR' (m_flaw_bolts hB) hL' (by omega) (by omega) (by omega) (by omega) hQ
      · rw [if_neg c3] at hQ
        exact ih _ _ _ hR' (m_flaw_bolts hB) hL' (by omega) (by omega) (by omega) (by omega) hQ
    · rw [if_pos (Or.inr (by omega))] at hQ; exact hQ
theorem S199 {d : Nat} (hd : 4 ≤ d) {m : Nat} {Φ : (Nat → Nat → Int32) → xM} (hΦ : MLaw m Φ) {A : Nat → Int → Int} (hR : RG A) {x1 x2 x3 x4 x5 : Int} (rr : Rg x1 ∧ Rg x2 ∧ Rg x3 ∧ Rg x4 ∧ Rg x5) (hp : (BoltsOK A) ∧ (SheetsOK A)) : xev xT d 199 [.ref m, .int (iz x1), .int (iz x2), .int (iz x3), .int (iz x4), .int (iz x5)] (Φ (mI A)) (some (.int (iz ((m_flaws A x1 x2 x3 x4 x5).1)))) (Φ (mI ((m_flaws A x1 x2 x3 x4 x5).2))) := by
  refine xev_i (D := 3) hd (Nat.le_of_ble_eq_true rfl) (fun d hd => V199_0 hd hΦ hR rr ?_)

  obtain ⟨hB, hS⟩ := hp
  have hS1 := hS x2
  have hB0 := hB.1
  have key : m_flaws_ok A x1 x2 x3 x5 → ¬ (0 ≤ A 43 x2 ∧ ¬ A 43 x2 = x3) → ¬ A 43 x2 < 0 → wpE (xT 199) (xev xT d) (fun r' s' => r' = some (.int (iz (m_flaws A x1 x2 x3 x4 x5).1)) ∧ s' = Φ (mI (m_flaws A x1 x2 x3 x4 x5).2)) (81, [(0, .ref m), (1, .int (iz x1)), (2, .int (iz x2)), (4, .int (iz x4)), (5, .int (iz x5)), (6, .int (iz 0)), (7, .int (iz 0))], [], Φ (mI A)) := fun h1 h2 h3 => by
    refine L199 hd hΦ rr.1 h1.2.1 rr.2.2.2.1 h1.2.2.2 x5.toNat 0 0 A hR hB (hS1 h1.2.1.1 h1.2.1.2).2 (Int.le_refl 0) (by omega) (Int.le_refl 0) (Int.le_refl 0) ?_
    unfold m_flaws
    rw [if_pos h1, if_neg h2, if_neg h3]
    exact ⟨rfl, rfl⟩
  repeat' (first | refine And.intro ?_ ?_ | intro _)
  all_goals (first | assumption | omega | (refine key (by unfold m_flaws_ok; omega) (by omega) (by omega)) | (refine congrArg (fun z => some (Value.int (iz z))) ?_; unfold m_flaws m_flaws_ok; (repeat' split) <;> first | rfl | (exfalso; omega)) | (refine congrArg (fun z => Φ (mI z)) ?_; unfold m_flaws m_flaws_ok; (repeat' split) <;> first | rfl | (exfalso; omega)))
abbrev m_under (k over : Int) : Prop := over = 0 ∨ k = over ∨ (over = 1 ∧ (k = 3 ∨ k = 5)) ∨ (over = 2 ∧ k = 4) ∨ (over = 3 ∧ k = 5)
def m_taken (A : Nat → Int → Int) (k over : Int) : Int := if 0 ≤ over ∧ over ≤ 5 then (if 0 ≤ k ∧ k ≤ A 0 13 - 1 then (if m_under (A 11 k) over then A 17 k else -13) else -11) else -2
theorem V201_0 {d : Nat} (hd : 0 ≤ d) {Q : Option Value → xM → Prop} {m : Nat} {Φ : (Nat → Nat → Int32) → xM} (hΦ : MLaw m Φ) {A : Nat → Int → Int} (hR : RG A) {x1 x2 : Int} (rr : Rg x1 ∧ Rg x2) (h : (((x2 = 0) → Q (some (.int (iz 1))) (Φ (mI A))) ∧ (¬ (x2 = 0) → (((x1 = x2) → Q (some (.int (iz 1))) (Φ (mI A))) ∧ (¬ (x1 = x2) → (((x2 = 1) → (((x1 = 3) → Q (some (.int (iz 1))) (Φ (mI A))) ∧ (¬ (x1 = 3) → (((x1 = 5) → Q (some (.int (iz 1))) (Φ (mI A))) ∧ (¬ (x1 = 5) → (((x2 = 2) → (((x1 = 4) → Q (some (.int (iz 1))) (Φ (mI A))) ∧ (¬ (x1 = 4) → (((x2 = 3) → (((x1 = 5) → Q (some (.int (iz 1))) (Φ (mI A))) ∧ (¬ (x1 = 5) → Q (some (.int (iz 0))) (Φ (mI A))))) ∧ (¬ (x2 = 3) → Q (some (.int (iz 0))) (Φ (mI A))))))) ∧ (¬ (x2 = 2) → (((x2 = 3) → (((x1 = 5) → Q (some (.int (iz 1))) (Φ (mI A))) ∧ (¬ (x1 = 5) → Q (some (.int (iz 0))) (Φ (mI A))))) ∧ (¬ (x2 = 3) → Q (some (.int (iz 0))) (Φ (mI A))))))))))) ∧ (¬ (x2 = 1) → (((x2 = 2) → (((x1 = 4) → Q (some (.int (iz 1))) (Φ (mI A))) ∧ (¬ (x1 = 4) → (((x2 = 3) → (((x1 = 5) → Q (some (.int (iz 1))) (Φ (mI A))) ∧ (¬ (x1 = 5) → Q (some (.int (iz 0))) (Φ (mI A))))) ∧ (¬ (x2 = 3) → Q (some (.int (iz 0))) (Φ (mI A))))))) ∧ (¬ (x2 = 2) → (((x2 = 3) → (((x1 = 5) → Q (some (.int (iz 1))) (Φ (mI A))) ∧ (¬ (x1 = 5) → Q (some (.int (iz 0))) (Φ (mI A))))) ∧ (¬ (x2 = 3) → Q (some (.int (iz 0))) (Φ (mI A))))))))))))) : wpE (xT 201) (xev xT d) Q (0, [(0, .ref m), (1, .int (iz x1)), (2, .int (iz x2))], [], Φ (mI A)) := by
  refine p_ild (cc3 c201_0) rfl ?_
  refine i_if (c' := x2 = 0) (cc3 c201_1) (c_eq0 rr.2) (fun c => ?_) (fun c => ?_)
  · have h := h.1 c
    refine p_lc (ls' := []) c201_44 rfl rfl ?_
    refine i_push (n := 1) (cct c201_44 rfl) zl_1 ?_
    refine p_goto (cc3 c201_45) ?_
    exact i_ri (cct c201_49 rfl) (by decide) h
  · have h := h.2 c
    refine p_ild (cc3 c201_4) rfl ?_
    refine p_ild (cc3 c201_5) rfl ?_
    refine i_icmp (c' := x1 = x2) (cc3 c201_6) (iz_inj rr.1 rr.2) (fun c => ?_) (fun c => ?_)
    · have h := h.1 c
      refine p_lc (ls' := []) c201_44 rfl rfl ?_
      refine i_push (n := 1) (cct c201_44 rfl) zl_1 ?_
      refine p_goto (cc3 c201_45) ?_
      exact i_ri (cct c201_49 rfl) (by decide) h
    · have h := h.2 c
      refine p_ild (cc3 c201_9) rfl ?_
      refine i_push (n := 1) (cc3 c201_10) zl_1 ?_
      refine i_icmp (c' := x2 = 1) (cc3 c201_11) (iz_inj rr.2 (by decide)) (fun c => ?_) (fun c => ?_)
      · have h := h.1 c
        refine p_ild (cc3 c201_14) rfl ?_
        refine i_push (n := 3) (cc3 c201_15) zl_3 ?_
        refine i_icmp (c' := x1 = 3) (cc3 c201_16) (iz_inj rr.1 (by decide)) (fun c => ?_) (fun c => ?_)
        · have h := h.1 c
          refine p_lc (ls' := []) c201_44 rfl rfl ?_
          refine i_push (n := 1) (cct c201_44 rfl) zl_1 ?_
          refine p_goto (cc3 c201_45) ?_
          exact i_ri (cct c201_49 rfl) (by decide) h
        · have h := h.2 c
          refine p_ild (cc3 c201_19) rfl ?_
          refine i_push (n := 5) (cc3 c201_20) zl_5 ?_
          refine i_icmp (c' := x1 = 5) (cc3 c201_21) (iz_inj rr.1 (by decide)) (fun c => ?_) (fun c => ?_)
          · have h := h.1 c
            refine p_lc (ls' := []) c201_44 rfl rfl ?_
            refine i_push (n := 1) (cct c201_44 rfl) zl_1 ?_
            refine p_goto (cc3 c201_45) ?_
            exact i_ri (cct c201_49 rfl) (by decide) h
          · have h := h.2 c
            refine p_lc (ls' := [(1, .int (iz x1)), (2, .int (iz x2))]) c201_24 rfl rfl ?_
            refine p_ild (cct c201_24 rfl) rfl ?_
            refine i_push (n := 2) (cc3 c201_25) zl_2 ?_
            refine i_icmp (c' := x2 = 2) (cc3 c201_26) (iz_inj rr.2 (by decide)) (fun c => ?_) (fun c => ?_)
            · have h := h.1 c
              refine p_ild (cc3 c201_29) rfl ?_
              refine i_push (n := 4) (cc3 c201_30) zl_4 ?_
              refine i_icmp (c' := x1 = 4) (cc3 c201_31) (iz_inj rr.1 (by decide)) (fun c => ?_) (fun c => ?_)
              · have h := h.1 c
                refine p_lc (ls' := []) c201_44 rfl rfl ?_
                refine i_push (n := 1) (cct c201_44 rfl) zl_1 ?_
                refine p_goto (cc3 c201_45) ?_
                exact i_ri (cct c201_49 rfl) (by decide) h
              · have h := h.2 c
                refine p_ild (cct c201_34 rfl) rfl ?_
                refine i_push (n := 3) (cc3 c201_35) zl_3 ?_
                refine i_icmp (c' := x2 = 3) (cc3 c201_36) (iz_inj rr.2 (by decide)) (fun c => ?_) (fun c => ?_)
                · have h := h.1 c
                  refine p_ild (cc3 c201_39) rfl ?_
                  refine i_push (n := 5) (cc3 c201_40) zl_5 ?_
                  refine i_icmp (c' := x1 = 5) (cc3 c201_41) (iz_inj rr.1 (by decide)) (fun c => ?_) (fun c => ?_)
                  · have h := h.1 c
                    refine p_lc (ls' := []) c201_44 rfl rfl ?_
                    refine i_push (n := 1) (cct c201_44 rfl) zl_1 ?_
                    refine p_goto (cc3 c201_45) ?_
                    exact i_ri (cct c201_49 rfl) (by decide) h
                  · have h := h.2 c
                    refine p_lc (ls' := []) c201_48 rfl rfl ?_
                    refine i_push (n := 0) (cct c201_48 rfl) zl_0 ?_
                    exact i_ri (cct c201_49 rfl) (by decide) h
                · have h := h.2 c
                  refine p_lc (ls' := []) c201_48 rfl rfl ?_
                  refine i_push (n := 0) (cct c201_48 rfl) zl_0 ?_
                  exact i_ri (cct c201_49 rfl) (by decide) h
            · have h := h.2 c
              refine p_ild (cct c201_34 rfl) rfl ?_
              refine i_push (n := 3) (cc3 c201_35) zl_3 ?_
              refine i_icmp (c' := x2 = 3) (cc3 c201_36) (iz_inj rr.2 (by decide)) (fun c => ?_) (fun c => ?_)
              · have h := h.1 c
                refine p_ild (cc3 c201_39) rfl ?_
                refine i_push (n := 5) (cc3 c201_40) zl_5 ?_
                refine i_icmp (c' := x1 = 5) (cc3 c201_41) (iz_inj rr.1 (by decide)) (fun c => ?_) (fun c => ?_)
                · have h := h.1 c
                  refine p_lc (ls' := []) c201_44 rfl rfl ?_
                  refine i_push (n := 1) (cct c201_44 rfl) zl_1 ?_
                  refine p_goto (cc3 c201_45) ?_
                  exact i_ri (cct c201_49 rfl) (by decide) h
                · have h := h.2 c
                  refine p_lc (ls' := []) c201_48 rfl rfl ?_
                  refine i_push (n := 0) (cct c201_48 rfl) zl_0 ?_
                  exact i_ri (cct c201_49 rfl) (by decide) h
              · have h := h.2 c
                refine p_lc (ls' := []) c201_48 rfl rfl ?_
                refine i_push (n := 0) (cct c201_48 rfl) zl_0 ?_
                exact i_ri (cct c201_49 rfl) (by decide) h
      · have h := h.2 c
        refine p_lc (ls' := [(1, .int (iz x1)), (2, .int (iz x2))]) c201_24 rfl rfl ?_
        refine p_ild (cct c201_24 rfl) rfl ?_
        refine i_push (n := 2) (cc3 c201_25) zl_2 ?_
        refine i_icmp (c' := x2 = 2) (cc3 c201_26) (iz_inj rr.2 (by decide)) (fun c => ?_) (fun c => ?_)
        · have h := h.1 c
          refine p_ild (cc3 c201_29) rfl ?_
          refine i_push (n := 4) (cc3 c201_30) zl_4 ?_
          refine i_icmp (c' := x1 = 4) (cc3 c201_31) (iz_inj rr.1 (by decide)) (fun c => ?_) (fun c => ?_)
          · have h := h.1 c
            refine p_lc (ls' := []) c201_44 rfl rfl ?_
            refine i_push (n := 1) (cct c201_44 rfl) zl_1 ?_
            refine p_goto (cc3 c201_45) ?_
            exact i_ri (cct c201_49 rfl) (by decide) h
          · have h := h.2 c
            refine p_ild (cct c201_34 rfl) rfl ?_
            refine i_push (n := 3) (cc3 c201_35) zl_3 ?_
            refine i_icmp (c' := x2 = 3) (cc3 c201_36) (iz_inj rr.2 (by decide)) (fun c => ?_) (fun c => ?_)
            · have h := h.1 c
              refine p_ild (cc3 c201_39) rfl ?_
              refine i_push (n := 5) (cc3 c201_40) zl_5 ?_
              refine i_icmp (c' := x1 = 5) (cc3 c201_41) (iz_inj rr.1 (by decide)) (fun c => ?_) (fun c => ?_)
              · have h := h.1 c
                refine p_lc (ls' := []) c201_44 rfl rfl ?_
                refine i_push (n := 1) (cct c201_44 rfl) zl_1 ?_
                refine p_goto (cc3 c201_45) ?_
                exact i_ri (cct c201_49 rfl) (by decide) h
              · have h := h.2 c
                refine p_lc (ls' := []) c201_48 rfl rfl ?_
                refine i_push (n := 0) (cct c201_48 rfl) zl_0 ?_
                exact i_ri (cct c201_49 rfl) (by decide) h
            · have h := h.2 c
              refine p_lc (ls' := []) c201_48 rfl rfl ?_
              refine i_push (n := 0) (cct c201_48 rfl) zl_0 ?_
              exact i_ri (cct c201_49 rfl) (by decide) h
        · have h := h.2 c
          refine p_ild (cct c201_34 rfl) rfl ?_
          refine i_push (n := 3) (cc3 c201_35) zl_3 ?_
          refine i_icmp (c' := x2 = 3) (cc3 c201_36) (iz_inj rr.2 (by decide)) (fun c => ?_) (fun c => ?_)
          · have h := h.1 c
            refine p_ild (cc3 c201_39) rfl ?_
            refine i_push (n := 5) (cc3 c201_40) zl_5 ?_
            refine i_icmp (c' := x1 = 5) (cc3 c201_41) (iz_inj rr.1 (by decide)) (fun c => ?_) (fun c => ?_)
            · have h := h.1 c
              refine p_lc (ls' := []) c201_44 rfl rfl ?_
              refine i_push (n := 1) (cct c201_44 rfl) zl_1 ?_
              refine p_goto (cc3 c201_45) ?_
              exact i_ri (cct c201_49 rfl) (by decide) h
            · have h := h.2 c
              refine p_lc (ls' := []) c201_48 rfl rfl ?_
              refine i_push (n := 0) (cct c201_48 rfl) zl_0 ?_
              exact i_ri (cct c201_49 rfl) (by decide) h
          · have h := h.2 c
            refine p_lc (ls' := []) c201_48 rfl rfl ?_
            refine i_push (n := 0) (cct c201_48 rfl) zl_0 ?_
            exact i_ri (cct c201_49 rfl) (by decide) h
theorem S201 {d : Nat} (hd : 1 ≤ d) {m : Nat} {Φ : (Nat → Nat → Int32) → xM} (hΦ : MLaw m Φ) {A : Nat → Int → Int} (hR : RG A) {x1 x2 : Int} (rr : Rg x1 ∧ Rg x2) : xev xT d 201 [.ref m, .int (iz x1), .int (iz x2)] (Φ (mI A)) (some (.int (iz (bI (m_under x1 x2))))) (Φ (mI A)) := by
  refine xev_i (D := 0) hd (Nat.le_of_ble_eq_true rfl) (fun d hd => V201_0 hd hΦ hR rr ?_)
  unfold m_under
  repeat' (first | refine And.intro ?_ ?_ | intro _)
  all_goals (first | assumption | rfl | omega | (refine congrArg (fun z => some (Value.int (iz z))) ?_; first | omega | exact (bI_f (by omega)).symm | exact (bI_t (by omega)).symm | exact bI_i (by omega)))
theorem V200_0 {d : Nat} (hd : 2 ≤ d) {Q : Option Value → xM → Prop} {m : Nat} {Φ : (Nat → Nat → Int32) → xM} (hΦ : MLaw m Φ) {A : Nat → Int → Int} (hR : RG A) {x1 x2 : Int} (rr : Rg x1 ∧ Rg x2) (h : ((¬ (0 ≤ x2 ∧ x2 ≤ 5) → Q (some (.int (iz (-2)))) (Φ (mI A))) ∧ ((0 ≤ x2 ∧ x2 ≤ 5) → (0 ≤ A 0 13) ∧ ((¬ (0 ≤ x1 ∧ x1 ≤ A 0 13 - 1) → Q (some (.int (iz (-11)))) (Φ (mI A))) ∧ ((0 ≤ x1 ∧ x1 ≤ A 0 13 - 1) → (0 ≤ x1 ∧ x1 < 8) ∧ ((¬ (m_under (A 11 x1) x2) → Q (some (.int (iz (-13)))) (Φ (mI A))) ∧ ((m_under (A 11 x1) x2) → Q (some (.int (iz (A 17 x1)))) (Φ (mI A))))))))) : wpE (xT 200) (xev xT d) Q (0, [(0, .ref m), (1, .int (iz x1)), (2, .int (iz x2))], [], Φ (mI A)) := by
  refine p_ald (cc3 c200_0) rfl ?_
  refine p_ild (cc3 c200_1) rfl ?_
  refine i_push (n := 0) (cc3 c200_2) zl_0 ?_
  refine i_push (n := 5) (cc3 c200_3) zl_5 ?_
  refine p_callV (cc3 c200_4) (Nat.le_of_ble_eq_true rfl) rfl rfl (Nat.le_of_ble_eq_true rfl) (ml_kd hΦ) (S129 (Nat.le_trans (by decide) hd) hΦ hR ⟨rr.2, (by decide), (by decide)⟩) ?_
  refine i_ifB (cc3 c200_7) (fun c => ?_) (fun c => ?_)
  · have h := h.1 c
    refine i_push (n := (-2)) (cc3 c200_10) zl_m2 ?_
    exact p_ri (cc3 c200_12) trivial h
  · have h := h.2 c
    refine p_ald (cc3 c200_13) rfl ?_
    refine p_ild (cc3 c200_14) rfl ?_
    obtain ⟨g1, h⟩ := h
    refine p_callV (cc3 c200_15) (Nat.le_of_ble_eq_true rfl) rfl rfl (Nat.le_of_ble_eq_true rfl) (ml_kd hΦ) (S147 (Nat.le_trans (by decide) hd) hΦ hR rr.1 g1) ?_
    refine i_ifB (cc3 c200_18) (fun c => ?_) (fun c => ?_)
    · have h := h.1 c
      refine i_push (n := (-11)) (cc3 c200_21) zl_m11 ?_
      exact p_ri (cc3 c200_23) trivial h
    · have h := h.2 c
      refine p_ald (cc3 c200_24) rfl ?_
      refine p_ald (cc3 c200_25) rfl ?_
      refine pm_getp hΦ (cc3 c200_26) (c := 11) rfl (by decide) ?_
      refine p_ild (cc3 c200_29) rfl ?_
      obtain ⟨g2, h⟩ := h
      refine n_aldi hΦ (c := 11) (n := 8) (ni := 8) (cc3 c200_30) (by decide) rfl rfl rfl (by decide) g2 (v := A 11 x1) rfl ?_
      refine p_ild (cc3 c200_31) rfl ?_
      refine p_callV (cc3 c200_32) (Nat.le_of_ble_eq_true rfl) rfl rfl (Nat.le_of_ble_eq_true rfl) (ml_kd hΦ) (S201 (Nat.le_trans (by decide) hd) hΦ hR ⟨(hR 11 x1), rr.2⟩) ?_
      refine i_ifB (cc3 c200_35) (fun c => ?_) (fun c => ?_)
      · have h := h.1 c
        refine i_push (n := (-13)) (cc3 c200_47) zl_m13 ?_
        refine p_lc (ls' := []) c200_49 rfl rfl ?_
        exact p_ri (cct c200_49 rfl) trivial h
      · have h := h.2 c
        refine p_ald (cc3 c200_38) rfl ?_
        refine pm_getp hΦ (cc3 c200_39) (c := 17) rfl (by decide) ?_
        refine p_ild (cc3 c200_42) rfl ?_
        refine n_aldi hΦ (c := 17) (n := 8) (ni := 8) (cc3 c200_43) (by decide) rfl rfl rfl (by decide) g2 (v := A 17 x1) rfl ?_
        refine p_goto (cc3 c200_44) ?_
        refine p_lc (ls' := []) c200_49 rfl rfl ?_
        exact p_ri (cct c200_49 rfl) trivial h
theorem S200 {d : Nat} (hd : 3 ≤ d) {m : Nat} {Φ : (Nat → Nat → Int32) → xM} (hΦ : MLaw m Φ) {A : Nat → Int → Int} (hR : RG A) {x1 x2 : Int} (rr : Rg x1 ∧ Rg x2) (hp : (0 ≤ A 0 13 ∧ A 0 13 ≤ 8)) : xev xT d 200 [.ref m, .int (iz x1), .int (iz x2)] (Φ (mI A)) (some (.int (iz (m_taken A x1 x2)))) (Φ (mI A)) := by
  refine xev_i (D := 2) hd (Nat.le_of_ble_eq_true rfl) (fun d hd => V200_0 hd hΦ hR rr ?_)
  unfold m_taken
  repeat' (first | refine And.intro ?_ ?_ | intro _)
  all_goals (first | assumption | rfl | omega | (refine congrArg (fun z => some (Value.int (iz z))) ?_; unfold m_under at *; (repeat' split) <;> first | rfl | (exfalso; omega)))
def m_by (w : Int64) (k : Int) : Int := b8 ((w >>> ((iz (8 * k)).toInt64 &&& 63)).toInt32.toInt)
def m_fd (A : Nat → Int → Int) (w : Int64) : Nat → Nat → Int → Int
  | 0 => A
  | k + 1 => UA (UA (m_fd A w k) 1 (A 0 1 + k) (m_by w k)) 0 1 (A 0 1 + k + 1)
def m_feed_r (A : Nat → Int → Int) (n : Int) : Int := if 1 ≤ n ∧ n ≤ 8 then (if A 0 1 + n ≤ 160 then A 0 1 + n else -4) else -2
def m_feed_n (A : Nat → Int → Int) (n : Int) (w : Int64) : Nat → Int → Int := if (1 ≤ n ∧ n ≤ 8) ∧ A 0 1 + n ≤ 160 then m_fd A w n.toNat else A
theorem m_fd_t {A : Nat → Int → Int} {w : Int64} : ∀ k : Nat, m_fd A w k 0 1 = A 0 1 + k
  | 0 => by simp [m_fd]
  | k + 1 => by show UA _ _ _ _ _ _ = _; rw [UA_eq]; omega
theorem m_fd_rg {A : Nat → Int → Int} {w : Int64} (hR : RG A) (h : 0 ≤ A 0 1 ∧ A 0 1 ≤ 160) : ∀ k : Nat, k ≤ 8 → RG (m_fd A w k)
  | 0, _ => hR
  | k + 1, hk => rg_UA (rg_UA (m_fd_rg hR h k (by omega)) rg_b8) (by omega)
theorem V128_0 {d : Nat} (hd : 1 ≤ d) {Q : Option Value → xM → Prop} {m : Nat} {Φ : (Nat → Nat → Int32) → xM} (hΦ : MLaw m Φ) {A : Nat → Int → Int} (hR : RG A) {x1 : Int} {w2 : Int64} (rr : Rg x1) (h : ((¬ (1 ≤ x1 ∧ x1 ≤ 8) → Q (some (.int (iz (-2)))) (Φ (mI A))) ∧ ((1 ≤ x1 ∧ x1 ≤ 8) → (Rg ((A 0 1) + x1)) ∧ (((((A 0 1) + x1) ≤ 160) → wpE (xT 128) (xev xT d) Q (32, [(0, .ref m), (1, .int (iz x1)), (2, .long w2), (4, .int (iz 0))], [], Φ (mI A))) ∧ (¬ (((A 0 1) + x1) ≤ 160) → Q (some (.int (iz (-4)))) (Φ (mI A))))))) : wpE (xT 128) (xev xT d) Q (0, [(0, .ref m), (1, .int (iz x1)), (2, .long w2)], [], Φ (mI A)) := by
  refine p_ald (cc3 c128_0) rfl ?_
  refine p_ild (cc3 c128_1) rfl ?_
  refine i_push (n := 1) (cc3 c128_2) zl_1 ?_
  refine i_push (n := 8) (cc3 c128_3) zl_8 ?_
  refine p_callV (cc3 c128_5) (Nat.le_of_ble_eq_true rfl) rfl rfl (Nat.le_of_ble_eq_true rfl) (ml_kd hΦ) (S129 (Nat.le_trans (by decide) hd) hΦ hR ⟨rr, (by decide), (by decide)⟩) ?_
  refine i_ifB (cc3 c128_8) (fun c => ?_) (fun c => ?_)
  · have h := h.1 c
    refine i_push (n := (-2)) (cc3 c128_11) zl_m2 ?_
    exact p_ri (cc3 c128_13) trivial h
  · have h := h.2 c
    refine p_ald (cc3 c128_14) rfl ?_
    refine n_geti hΦ (v := A 0 1) (cc3 c128_15) (ji := 1) rfl rfl ?_
    refine p_ild (cc3 c128_18) rfl ?_
    obtain ⟨g1, h⟩ := h
    refine (fun _ : Rg ((A 0 1) + x1) => i_add (cc3 c128_19) ?_) g1
    refine i_push (n := 160) (cc3 c128_20) zl_160 ?_
    refine i_icmp (c' := ((A 0 1) + x1) ≤ 160) (cc3 c128_23) (iz_le g1 (by decide)) (fun c => ?_) (fun c => ?_)
    · have h := h.1 c
      refine i_push (n := 0) (cc3 c128_29) zl_0 ?_
      refine p_ist (ls' := [(4, .int (iz 0)), (0, .ref m), (1, .int (iz x1)), (2, .long w2)]) (cc3 c128_30) (by decide) rfl ?_
      exact p_lc (ls' := [(0, .ref m), (1, .int (iz x1)), (2, .long w2), (4, .int (iz 0))]) c128_32 rfl rfl h
    · have h := h.2 c
      refine i_push (n := (-4)) (cc3 c128_26) zl_m4 ?_
      exact p_ri (cc3 c128_28) trivial h
theorem V128_32 {d : Nat} (hd : 1 ≤ d) {Q : Option Value → xM → Prop} {m : Nat} {Φ : (Nat → Nat → Int32) → xM} (hΦ : MLaw m Φ) {A : Nat → Int → Int} (hR : RG A) {x1 x4 : Int} {w2 : Int64} (rr : Rg x1 ∧ Rg x4) (h : (((x1 ≤ x4) → Q (some (.int (iz (A 0 1)))) (Φ (mI A))) ∧ (¬ (x1 ≤ x4) → (Rg (8 * x4)) ∧ (0 ≤ (A 0 1) ∧ (A 0 1) < 160) ∧ (Rg ((A 0 1) + 1)) ∧ (Rg (x4 + 1)) ∧ wpE (xT 128) (xev xT d) Q (32, [(0, .ref m), (1, .int (iz x1)), (2, .long w2), (4, .int (iz (x4 + 1)))], [], Φ (mI (UA (UA A 1 (A 0 1) (b8 ((w2 >>> ((iz (8 * x4)).toInt64 &&& 63)).toInt32.toInt))) 0 1 ((A 0 1) + 1))))))) : wpE (xT 128) (xev xT d) Q (32, [(0, .ref m), (1, .int (iz x1)), (2, .long w2), (4, .int (iz x4))], [], Φ (mI A)) := by
  refine p_ild (cct c128_32 rfl) rfl ?_
  refine p_ild (cc3 c128_34) rfl ?_
  refine i_icmp (c' := x1 ≤ x4) (cc3 c128_35) (iz_le rr.1 rr.2) (fun c => ?_) (fun c => ?_)
  · have h := h.1 c
    refine p_ald (cc3 c128_72) rfl ?_
    refine n_geti hΦ (v := A 0 1) (cc3 c128_73) (ji := 1) rfl rfl ?_
    exact p_ri (cc3 c128_76) trivial h
  · have h := h.2 c
    refine p_ald (cc3 c128_38) rfl ?_
    refine pm_getp hΦ (cc3 c128_39) (c := 1) rfl (by decide) ?_
    refine p_ald (cc3 c128_42) rfl ?_
    refine n_geti hΦ (v := A 0 1) (cc3 c128_43) (ji := 1) rfl rfl ?_
    refine p_lld (cc3 c128_46) rfl ?_
    refine i_push (n := 8) (cc3 c128_47) zl_8 ?_
    refine p_ild (cc3 c128_49) rfl ?_
    obtain ⟨g1, h⟩ := h
    refine (fun _ : Rg (8 * x4) => i_mul (cc3 c128_51) ?_) g1
    refine p_shL (cc3 c128_52) ?_
    refine p_l2i (cc3 c128_53) ?_
    rw [← iz_of ((w2 >>> ((iz (8 * x4)).toInt64 &&& 63)).toInt32)]
    refine i_un (z := b8 ((w2 >>> ((iz (8 * x4)).toInt64 &&& 63)).toInt32.toInt)) (cc3 c128_54) (iz_of _).symm ?_
    obtain ⟨g2, h⟩ := h
    refine id (α := Rg (b8 ((w2 >>> ((iz (8 * x4)).toInt64 &&& 63)).toInt32.toInt)) → _) (fun _ => ?_) rg_b8; refine n_asti hΦ (c := 1) (n := 160) (ni := 160) (hv := vnar8b) (cc3 c128_55) (by decide) rfl rfl rfl (by decide) g2 ?_
    refine p_ald (cc3 c128_56) rfl ?_
    refine p_dup (cc3 c128_57) rfl ?_
    refine n_geti hΦ (v := A 0 1) (cc3 c128_58) (ji := 1) rfl rfl ?_
    refine i_push (n := 1) (cc3 c128_61) zl_1 ?_
    obtain ⟨g3, h⟩ := h
    refine (fun _ : Rg ((A 0 1) + 1) => i_add (cc3 c128_62) ?_) g3
    refine (fun _ : Rg ((A 0 1) + 1) => n_puti hΦ (cc3 c128_63) (ji := 1) rfl ?_) g3
    obtain ⟨g4, h⟩ := h
    refine (fun _ : Rg (x4 + 1) => i_iinc (n := 1) (y := x4 + 1) (ls' := [(4, .int (iz (x4 + 1))), (0, .ref m), (1, .int (iz x1)), (2, .long w2)]) (cc3 c128_66) (by decide) rfl zl_1 (by first | rfl | omega) rfl ?_) g4
    refine p_goto (cc3 c128_69) ?_
    exact p_lc (ls' := [(0, .ref m), (1, .int (iz x1)), (2, .long w2), (4, .int (iz (x4 + 1)))]) c128_32 rfl rfl h

theorem L128 {d : Nat} (hd : 1 ≤ d) {Q : Option Value → xM → Prop} {m : Nat} {Φ : (Nat → Nat → Int32) → xM} (hΦ : MLaw m Φ) {A : Nat → Int → Int} (hR : RG A) {n : Int} {w : Int64} (hp : 0 ≤ A 0 1 ∧ A 0 1 ≤ 160) (hn : 1 ≤ n ∧ n ≤ 8) (hn2 : A 0 1 + n ≤ 160) (hQ : Q (some (.int (iz (A 0 1 + n)))) (Φ (mI (m_fd A w n.toNat)))) :
    ∀ (r k : Nat), (k : Int) + r = n → wpE (xT 128) (xev xT d) Q (32, [(0, .ref m), (1, .int (iz n)), (2, .long w), (4, .int (iz k))], [], Φ (mI (m_fd A w k))) := by
  intro r
  induction r with
  | zero =>
    intro k hk
    have et := m_fd_t (A := A) (w := w) k
    have hr := m_fd_rg (w := w) hR hp k (by omega)
    refine V128_32 hd hΦ hr (by omega) ?_
    refine ⟨fun _ => ?_, fun h => absurd (show n ≤ k by omega) h⟩
    rw [et, show A 0 1 + (k : Int) = A 0 1 + n by omega, show k = n.toNat by omega]
    exact hQ
  | succ r ih =>
    intro k hk
    have et := m_fd_t (A := A) (w := w) k
    have hr := m_fd_rg (w := w) hR hp k (by omega)
    refine V128_32 hd hΦ hr (by omega) ?_
    rw [et]
    exact ⟨fun h => absurd h (by omega), fun _ => ⟨by omega, by omega, by omega, by omega, ih (k + 1) (by omega)⟩⟩
theorem S128 {d : Nat} (hd : 2 ≤ d) {m : Nat} {Φ : (Nat → Nat → Int32) → xM} (hΦ : MLaw m Φ) {A : Nat → Int → Int} (hR : RG A) {x1 : Int} {w2 : Int64} (rr : Rg x1) (hp : (0 ≤ A 0 1 ∧ A 0 1 ≤ 160)) : xev xT d 128 [.ref m, .int (iz x1), .long w2] (Φ (mI A)) (some (.int (iz (m_feed_r A x1)))) (Φ (mI (m_feed_n A x1 w2))) := by
  refine xev_i (D := 1) hd (Nat.le_of_ble_eq_true rfl) (fun d hd => V128_0 hd hΦ hR rr ?_)

  unfold m_feed_r m_feed_n
  refine ⟨fun h => ⟨?_, ?_⟩, fun h => ⟨by omega, fun h2 => ?_, fun h2 => ⟨?_, ?_⟩⟩⟩
  · rw [if_neg h]
  · rw [if_neg (fun q => h q.1)]
  · exact L128 hd hΦ hR hp h h2 ⟨by rw [if_pos h, if_pos h2], by rw [if_pos ⟨h, h2⟩]⟩ x1.toNat 0 (by omega)
  · rw [if_pos h, if_neg h2]
  · rw [if_neg (fun q => h2 q.2)]
