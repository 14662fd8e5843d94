def BoltOK (A : Nat → Int → Int) (b : Int) : Prop := (0 ≤ A 7 b ∧ A 7 b < A 0 2) ∧ (100 ≤ A 8 b ∧ A 8 b ≤ 9999) ∧ (0 ≤ A 9 b ∧ A 9 b ≤ 10)
def BoltsOK (A : Nat → Int → Int) : Prop := (0 ≤ A 0 8 ∧ A 0 8 ≤ 4) ∧ ∀ b : Int, 0 ≤ b → b < A 0 8 → BoltOK A b
def KiltsOK (A : Nat → Int → Int) : Prop := (0 ≤ A 0 13 ∧ A 0 13 ≤ 8) ∧ ∀ k : Int, 0 ≤ k → k < A 0 13 → KiltOK A k ∧ LaidOK A k
def SheetsOK (A : Nat → Int → Int) : Prop := ∀ s : Int, 0 ≤ s → s ≤ 3 → (-1 ≤ A 43 s ∧ A 43 s ≤ 2) ∧ (0 ≤ A 44 s ∧ A 44 s ≤ 40)
def m_bolt_r (A : Nat → Int → Int) (s n : Int) : Int := if (0 ≤ s ∧ s ≤ A 0 2 - 1) ∧ (100 ≤ n ∧ n ≤ 9999) then (if A 0 8 = 4 then -4 else A 0 8) else -2
def m_bolt_n (A : Nat → Int → Int) (s n : Int) : Nat → Int → Int := if ((0 ≤ s ∧ s ≤ A 0 2 - 1) ∧ (100 ≤ n ∧ n ≤ 9999)) ∧ ¬ A 0 8 = 4 then UA (UA (UA (UA A 7 (A 0 8) s) 8 (A 0 8) n) 9 (A 0 8) 0) 0 8 (A 0 8 + 1) else A
theorem V141_0 {d : Nat} (hd : 2 ≤ d) {Q : Option Value → xM → Prop} {m : Nat} {Φ : (Nat → Nat → Int32) → xM} (hΦ : MLaw m Φ) {A : Nat → Int → Int} (hR : RG A) {x1 x2 : Int} (rr : Rg x1 ∧ Rg x2) (h : (0 ≤ A 0 2) ∧ ((¬ (0 ≤ x1 ∧ x1 ≤ A 0 2 - 1) → Q (some (.int (iz (-2)))) (Φ (mI A))) ∧ ((0 ≤ x1 ∧ x1 ≤ A 0 2 - 1) → ((¬ (100 ≤ x2 ∧ x2 ≤ 9999) → Q (some (.int (iz (-2)))) (Φ (mI A))) ∧ ((100 ≤ x2 ∧ x2 ≤ 9999) → ((((A 0 8) = 4) → Q (some (.int (iz (-4)))) (Φ (mI A))) ∧ (¬ ((A 0 8) = 4) → (0 ≤ (A 0 8) ∧ (A 0 8) < 5) ∧ (Rg ((A 0 8) + 1)) ∧ (Rg (((A 0 8) + 1) - 1)) ∧ Q (some (.int (iz (((A 0 8) + 1) - 1)))) (Φ (mI (UA (UA (UA (UA A 7 (A 0 8) x1) 8 (A 0 8) x2) 9 (A 0 8) 0) 0 8 ((A 0 8) + 1))))))))))) : wpE (xT 141) (xev xT d) Q (0, [(0, .ref m), (1, .int (iz x1)), (2, .int (iz x2))], [], Φ (mI A)) := by
  refine p_ald (cc3 c141_0) rfl ?_
  refine p_ild (cc3 c141_1) rfl ?_
  obtain ⟨g1, h⟩ := h
  refine p_callV (cc3 c141_2) (Nat.le_of_ble_eq_true rfl) rfl rfl (Nat.le_of_ble_eq_true rfl) (ml_kd hΦ) (S135 (Nat.le_trans (by decide) hd) hΦ hR rr.1 g1) ?_
  refine i_ifB (cc3 c141_5) (fun c => ?_) (fun c => ?_)
  · have h := h.1 c
    refine p_lc (ls' := []) c141_21 rfl rfl ?_
    refine i_push (n := (-2)) (cct c141_21 rfl) zl_m2 ?_
    exact p_ri (cc3 c141_23) trivial h
  · have h := h.2 c
    refine p_ald (cc3 c141_8) rfl ?_
    refine p_ild (cc3 c141_9) rfl ?_
    refine i_push (n := 100) (cc3 c141_10) zl_100 ?_
    refine i_push (n := 9999) (cc3 c141_12) zl_9999 ?_
    refine p_callV (cc3 c141_15) (Nat.le_of_ble_eq_true rfl) rfl rfl (Nat.le_of_ble_eq_true rfl) (ml_kd hΦ) (S129 (Nat.le_trans (by decide) hd) hΦ hR ⟨rr.2, (by decide), (by decide)⟩) ?_
    refine i_ifB (cc3 c141_18) (fun c => ?_) (fun c => ?_)
    · have h := h.1 c
      refine p_lc (ls' := []) c141_21 rfl rfl ?_
      refine i_push (n := (-2)) (cct c141_21 rfl) zl_m2 ?_
      exact p_ri (cc3 c141_23) trivial h
    · have h := h.2 c
      refine p_ald (cc3 c141_24) rfl ?_
      refine n_geti hΦ (v := A 0 8) (cc3 c141_25) (ji := 8) rfl rfl ?_
      refine i_push (n := 4) (cc3 c141_28) zl_4 ?_
      refine i_icmp (c' := (A 0 8) = 4) (cc3 c141_29) (iz_inj (hR 0 8) (by decide)) (fun c => ?_) (fun c => ?_)
      · have h := h.1 c
        refine i_push (n := (-4)) (cc3 c141_32) zl_m4 ?_
        exact p_ri (cc3 c141_34) trivial h
      · have h := h.2 c
        refine p_ald (cc3 c141_35) rfl ?_
        refine pm_getp hΦ (cc3 c141_36) (c := 7) rfl (by decide) ?_
        refine p_ald (cc3 c141_39) rfl ?_
        refine n_geti hΦ (v := A 0 8) (cc3 c141_40) (ji := 8) rfl rfl ?_
        refine p_ild (cc3 c141_43) rfl ?_
        obtain ⟨g2, h⟩ := h
        refine id (α := Rg x1 → _) (fun _ => ?_) rr.1; refine n_asti hΦ (c := 7) (n := 5) (ni := 5) (hv := rfl) (cc3 c141_44) (by decide) rfl rfl rfl (by decide) g2 ?_
        refine p_ald (cc3 c141_45) rfl ?_
        refine pm_getp hΦ (cc3 c141_46) (c := 8) rfl (by decide) ?_
        refine p_ald (cc3 c141_49) rfl ?_
        refine n_geti hΦ (v := A 0 8) (cc3 c141_50) (ji := 8) rfl rfl ?_
        refine p_ild (cc3 c141_53) rfl ?_
        refine id (α := Rg x2 → _) (fun _ => ?_) rr.2; refine n_asti hΦ (c := 8) (n := 5) (ni := 5) (hv := rfl) (cc3 c141_54) (by decide) rfl rfl rfl (by decide) g2 ?_
        refine p_ald (cc3 c141_55) rfl ?_
        refine pm_getp hΦ (cc3 c141_56) (c := 9) rfl (by decide) ?_
        refine p_ald (cc3 c141_59) rfl ?_
        refine n_geti hΦ (v := A 0 8) (cc3 c141_60) (ji := 8) rfl rfl ?_
        refine i_push (n := 0) (cc3 c141_63) zl_0 ?_
        refine id (α := Rg 0 → _) (fun _ => ?_) (by decide); refine n_asti hΦ (c := 9) (n := 5) (ni := 5) (hv := rfl) (cc3 c141_64) (by decide) rfl rfl rfl (by decide) g2 ?_
        refine p_ald (cc3 c141_65) rfl ?_
        refine p_dup (cc3 c141_66) rfl ?_
        refine n_geti hΦ (v := A 0 8) (cc3 c141_67) (ji := 8) rfl rfl ?_
        refine i_push (n := 1) (cc3 c141_70) zl_1 ?_
        obtain ⟨g3, h⟩ := h
        refine (fun _ : Rg ((A 0 8) + 1) => i_add (cc3 c141_71) ?_) g3
        refine (fun _ : Rg ((A 0 8) + 1) => n_puti hΦ (cc3 c141_72) (ji := 8) rfl ?_) g3
        refine p_ald (cc3 c141_75) rfl ?_
        refine n_geti hΦ (v := (A 0 8) + 1) (cc3 c141_76) (ji := 8) rfl rfl ?_
        refine i_push (n := 1) (cc3 c141_79) zl_1 ?_
        obtain ⟨g4, h⟩ := h
        refine (fun _ : Rg (((A 0 8) + 1) - 1) => i_sub (cc3 c141_80) ?_) g4
        exact p_ri (cc3 c141_81) trivial h
theorem S141 {d : Nat} (hd : 3 ≤ d) {m : Nat} {Φ : (Nat → Nat → Int32) → xM} (hΦ : MLaw m Φ) {A : Nat → Int → Int} (hR : RG A) {x1 x2 : Int} (rr : Rg x1 ∧ Rg x2) (hp : (0 ≤ A 0 2) ∧ (0 ≤ A 0 8 ∧ A 0 8 ≤ 4)) : xev xT d 141 [.ref m, .int (iz x1), .int (iz x2)] (Φ (mI A)) (some (.int (iz (m_bolt_r A x1 x2)))) (Φ (mI (m_bolt_n A x1 x2))) := by
  refine xev_i (D := 2) hd (Nat.le_of_ble_eq_true rfl) (fun d hd => V141_0 hd hΦ hR rr ?_)
  repeat' (first | refine And.intro ?_ ?_ | intro _)
  all_goals (first | assumption | rfl | omega | (refine congrArg (fun z => some (Value.int (iz z))) ?_; first | omega | (unfold m_bolt_r; (repeat' split) <;> first | rfl | omega | (exfalso; omega))) | (refine congrArg (fun z => Φ (mI z)) ?_; (unfold m_bolt_n; (repeat' split) <;> first | rfl | omega | (exfalso; omega))))
def m_flaw_r (A : Nat → Int → Int) (b x : Int) : Int := if (0 ≤ b ∧ b ≤ A 0 8 - 1) ∧ (0 ≤ x ∧ x ≤ A 8 b - 1) ∧ ¬ m_isF A b x 1 = true then (if A 9 b = 10 then -4 else A 9 b + 1) else -2
def m_flaw_n (A : Nat → Int → Int) (b x : Int) : Nat → Int → Int := if ((0 ≤ b ∧ b ≤ A 0 8 - 1) ∧ (0 ≤ x ∧ x ≤ A 8 b - 1) ∧ ¬ m_isF A b x 1 = true) ∧ ¬ A 9 b = 10 then UA (UA A 10 (10 * b + A 9 b) x) 9 b (A 9 b + 1) else A
theorem m_flaw_rg {A : Nat → Int → Int} {b x : Int} (hR : RG A) (hx : Rg x) (hB : BoltsOK A) : RG (m_flaw_n A b x) := by
  unfold m_flaw_n
  split
  · rename_i h
    have := (hB.2 b (by omega) (by omega)).2.2
    exact rg_UA (rg_UA hR hx) (by omega)
  · exact hR
theorem V142_0 {d : Nat} (hd : 2 ≤ d) {Q : Option Value → xM → Prop} {m : Nat} {Φ : (Nat → Nat → Int32) → xM} (hΦ : MLaw m Φ) {A : Nat → Int → Int} (hR : RG A) {x1 x2 : Int} (rr : Rg x1 ∧ Rg x2) (h : (0 ≤ A 0 8) ∧ ((¬ (0 ≤ x1 ∧ x1 ≤ A 0 8 - 1) → Q (some (.int (iz (-2)))) (Φ (mI A))) ∧ ((0 ≤ x1 ∧ x1 ≤ A 0 8 - 1) → (0 ≤ x1 ∧ x1 < 5) ∧ (Rg ((A 8 x1) - 1)) ∧ ((¬ (0 ≤ x2 ∧ x2 ≤ ((A 8 x1) - 1)) → Q (some (.int (iz (-2)))) (Φ (mI A))) ∧ ((0 ≤ x2 ∧ x2 ≤ ((A 8 x1) - 1)) → (0 ≤ A 9 x1 ∧ A 9 x1 ≤ 10) ∧ (Rg (x2 + (1 : Int))) ∧ ((¬ (m_isF A x1 x2 1 = true) → ((((A 9 x1) = 10) → Q (some (.int (iz (-4)))) (Φ (mI A))) ∧ (¬ ((A 9 x1) = 10) → (Rg (10 * x1)) ∧ (Rg ((10 * x1) + (A 9 x1))) ∧ (0 ≤ ((10 * x1) + (A 9 x1)) ∧ ((10 * x1) + (A 9 x1)) < 50) ∧ (Rg ((A 9 x1) + 1)) ∧ Q (some (.int (iz ((A 9 x1) + 1)))) (Φ (mI (UA (UA A 10 ((10 * x1) + (A 9 x1)) x2) 9 x1 ((A 9 x1) + 1))))))) ∧ ((m_isF A x1 x2 1 = true) → Q (some (.int (iz (-2)))) (Φ (mI A))))))))) : wpE (xT 142) (xev xT d) Q (0, [(0, .ref m), (1, .int (iz x1)), (2, .int (iz x2))], [], Φ (mI A)) := by
  refine p_ald (cc3 c142_0) rfl ?_
  refine p_ild (cc3 c142_1) rfl ?_
  obtain ⟨g1, h⟩ := h
  refine p_callV (cc3 c142_2) (Nat.le_of_ble_eq_true rfl) rfl rfl (Nat.le_of_ble_eq_true rfl) (ml_kd hΦ) (S143 (Nat.le_trans (by decide) hd) hΦ hR rr.1 g1) ?_
  refine i_ifB (cc3 c142_5) (fun c => ?_) (fun c => ?_)
  · have h := h.1 c
    refine p_lc (ls' := []) c142_35 rfl rfl ?_
    refine i_push (n := (-2)) (cct c142_35 rfl) zl_m2 ?_
    exact p_ri (cc3 c142_37) trivial h
  · have h := h.2 c
    refine p_ald (cc3 c142_8) rfl ?_
    refine p_ild (cc3 c142_9) rfl ?_
    refine i_push (n := 0) (cc3 c142_10) zl_0 ?_
    refine p_ald (cc3 c142_11) rfl ?_
    refine pm_getp hΦ (cc3 c142_12) (c := 8) rfl (by decide) ?_
    refine p_ild (cc3 c142_15) rfl ?_
    obtain ⟨g2, h⟩ := h
    refine n_aldi hΦ (c := 8) (n := 5) (ni := 5) (cc3 c142_16) (by decide) rfl rfl rfl (by decide) g2 (v := A 8 x1) rfl ?_
    refine i_push (n := 1) (cc3 c142_17) zl_1 ?_
    obtain ⟨g3, h⟩ := h
    refine (fun _ : Rg ((A 8 x1) - 1) => i_sub (cc3 c142_18) ?_) g3
    refine p_callV (cc3 c142_19) (Nat.le_of_ble_eq_true rfl) rfl rfl (Nat.le_of_ble_eq_true rfl) (ml_kd hΦ) (S129 (Nat.le_trans (by decide) hd) hΦ hR ⟨rr.2, (by decide), g3⟩) ?_
    refine i_ifB (cc3 c142_22) (fun c => ?_) (fun c => ?_)
    · have h := h.1 c
      refine p_lc (ls' := []) c142_35 rfl rfl ?_
      refine i_push (n := (-2)) (cct c142_35 rfl) zl_m2 ?_
      exact p_ri (cc3 c142_37) trivial h
    · have h := h.2 c
      refine p_ald (cc3 c142_25) rfl ?_
      refine p_ild (cc3 c142_26) rfl ?_
      refine p_ild (cc3 c142_27) rfl ?_
      refine i_push (n := 1) (cc3 c142_28) zl_1 ?_
      obtain ⟨g4, h⟩ := h
      obtain ⟨g5, h⟩ := h
      refine p_callV (cc3 c142_29) (Nat.le_of_ble_eq_true rfl) rfl rfl (Nat.le_of_ble_eq_true rfl) (ml_kd hΦ) (S144 (Nat.le_trans (by decide) hd) hΦ hR ⟨rr.1, rr.2, (by decide)⟩ ⟨g2, g4, g5⟩) ?_
      refine i_ifB (cc3 c142_32) (fun c => ?_) (fun c => ?_)
      · have h := h.1 c
        refine p_ald (cc3 c142_38) rfl ?_
        refine pm_getp hΦ (cc3 c142_39) (c := 9) rfl (by decide) ?_
        refine p_ild (cc3 c142_42) rfl ?_
        refine n_aldi hΦ (c := 9) (n := 5) (ni := 5) (cc3 c142_43) (by decide) rfl rfl rfl (by decide) g2 (v := A 9 x1) rfl ?_
        refine i_push (n := 10) (cc3 c142_44) zl_10 ?_
        refine i_icmp (c' := (A 9 x1) = 10) (cc3 c142_46) (iz_inj (hR 9 x1) (by decide)) (fun c => ?_) (fun c => ?_)
        · have h := h.1 c
          refine i_push (n := (-4)) (cc3 c142_49) zl_m4 ?_
          exact p_ri (cc3 c142_51) trivial h
        · have h := h.2 c
          refine p_ald (cc3 c142_52) rfl ?_
          refine pm_getp hΦ (cc3 c142_53) (c := 10) rfl (by decide) ?_
          refine i_push (n := 10) (cc3 c142_56) zl_10 ?_
          refine p_ild (cc3 c142_58) rfl ?_
          obtain ⟨g6, h⟩ := h
          refine (fun _ : Rg (10 * x1) => i_mul (cc3 c142_59) ?_) g6
          refine p_ald (cc3 c142_60) rfl ?_
          refine pm_getp hΦ (cc3 c142_61) (c := 9) rfl (by decide) ?_
          refine p_ild (cc3 c142_64) rfl ?_
          refine n_aldi hΦ (c := 9) (n := 5) (ni := 5) (cc3 c142_65) (by decide) rfl rfl rfl (by decide) g2 (v := A 9 x1) rfl ?_
          obtain ⟨g7, h⟩ := h
          refine (fun _ : Rg ((10 * x1) + (A 9 x1)) => i_add (cc3 c142_66) ?_) g7
          refine p_ild (cc3 c142_67) rfl ?_
          obtain ⟨g8, h⟩ := h
          refine id (α := Rg x2 → _) (fun _ => ?_) rr.2; refine n_asti hΦ (c := 10) (n := 50) (ni := 50) (hv := rfl) (cc3 c142_68) (by decide) rfl rfl rfl (by decide) g8 ?_
          refine p_ald (cc3 c142_69) rfl ?_
          refine pm_getp hΦ (cc3 c142_70) (c := 9) rfl (by decide) ?_
          refine p_ild (cc3 c142_73) rfl ?_
          refine p_dup2 (cc3 c142_74) rfl rfl ?_
          refine n_aldi hΦ (c := 9) (n := 5) (ni := 5) (cc3 c142_75) (by decide) rfl rfl rfl (by decide) g2 (v := A 9 x1) (by first | rfl | exact UA_eq | simp [UA]) ?_
          refine i_push (n := 1) (cc3 c142_76) zl_1 ?_
          obtain ⟨g9, h⟩ := h
          refine (fun _ : Rg ((A 9 x1) + 1) => i_add (cc3 c142_77) ?_) g9
          refine id (α := Rg ((A 9 x1) + 1) → _) (fun _ => ?_) g9; refine n_asti hΦ (c := 9) (n := 5) (ni := 5) (hv := rfl) (cc3 c142_78) (by decide) rfl rfl rfl (by decide) g2 ?_
          refine p_ald (cc3 c142_79) rfl ?_
          refine pm_getp hΦ (cc3 c142_80) (c := 9) rfl (by decide) ?_
          refine p_ild (cc3 c142_83) rfl ?_
          refine n_aldi hΦ (c := 9) (n := 5) (ni := 5) (cc3 c142_84) (by decide) rfl rfl rfl (by decide) g2 (v := (A 9 x1) + 1) (by first | rfl | exact UA_eq | simp [UA]) ?_
          exact p_ri (cc3 c142_85) trivial h
      · have h := h.2 c
        refine p_lc (ls' := []) c142_35 rfl rfl ?_
        refine i_push (n := (-2)) (cct c142_35 rfl) zl_m2 ?_
        exact p_ri (cc3 c142_37) trivial h
theorem S142 {d : Nat} (hd : 3 ≤ d) {m : Nat} {Φ : (Nat → Nat → Int32) → xM} (hΦ : MLaw m Φ) {A : Nat → Int → Int} (hR : RG A) {x1 x2 : Int} (rr : Rg x1 ∧ Rg x2) (hp : (BoltsOK A)) : xev xT d 142 [.ref m, .int (iz x1), .int (iz x2)] (Φ (mI A)) (some (.int (iz (m_flaw_r A x1 x2)))) (Φ (mI (m_flaw_n A x1 x2))) := by
  refine xev_i (D := 2) hd (Nat.le_of_ble_eq_true rfl) (fun d hd => V142_0 hd hΦ hR rr ?_)

  obtain ⟨h0, h1⟩ := hp
  refine ⟨h0.1, fun h => ⟨?_, ?_⟩, fun h => ?_⟩
  · unfold m_flaw_r; rw [if_neg (by omega)]
  · unfold m_flaw_n; rw [if_neg (by omega)]
  obtain ⟨s1, s2, s3⟩ := h1 x1 (by omega) (by omega)
  unfold m_flaw_r m_flaw_n
  refine ⟨by omega, by omega, fun h2 => ⟨?_, ?_⟩, fun h2 => ⟨by omega, by omega, fun h3 => ⟨fun h4 => ⟨?_, ?_⟩, fun h4 => ⟨by omega, by omega, by omega, by omega, ?_, ?_⟩⟩, fun h3 => ⟨?_, ?_⟩⟩⟩
  · rw [if_neg (by omega)]
  · rw [if_neg (by omega)]
  · rw [if_pos ⟨h, h2, h3⟩, if_pos h4]
  · rw [if_neg (fun q => q.2 h4)]
  · rw [if_pos ⟨h, h2, h3⟩, if_neg h4]
  · rw [if_pos ⟨⟨h, h2, h3⟩, h4⟩]
  · rw [if_neg (fun q => q.2.2 h3)]
  · rw [if_neg (fun q => q.1.2.2 h3)]
abbrev m_kilt_ok (s i h n w st : Int) : Prop := (0 ≤ s ∧ s ≤ 5) ∧ (4 ≤ i ∧ i ≤ 40) ∧ (20 ≤ h ∧ h ≤ 60) ∧ (4 ≤ n ∧ n ≤ 24) ∧ (20 ≤ w ∧ w ≤ h) ∧ (0 ≤ st ∧ st ≤ 9) ∧ (h - w) * i / 2 ≤ n * (h * i / (2 * n) - 1)
def m_kilt_r (A : Nat → Int → Int) (s i h n w st : Int) : Int := if m_kilt_ok s i h n w st then (if A 0 13 = 8 then -4 else A 0 13) else -2
def m_kilt_n (A : Nat → Int → Int) (s i h n w st : Int) : Nat → Int → Int := if m_kilt_ok s i h n w st ∧ ¬ A 0 13 = 8 then UA (UA (UA (UA (UA (UA (UA (UA (UA (UA (UA A 11 (A 0 13) s) 12 (A 0 13) i) 13 (A 0 13) h) 14 (A 0 13) w) 15 (A 0 13) n) 16 (A 0 13) st) 17 (A 0 13) (h * i / (2 * n))) 18 (A 0 13) (h * i - n * (h * i / (2 * n)))) 19 (A 0 13) ((h - w) * i / 2)) 20 (A 0 13) (-1)) 0 13 (A 0 13 + 1) else A
theorem V145_0 {d : Nat} (hd : 1 ≤ d) {Q : Option Value → xM → Prop} {m : Nat} {Φ : (Nat → Nat → Int32) → xM} (hΦ : MLaw m Φ) {A : Nat → Int → Int} (hR : RG A) {x1 x2 x3 x4 : Int} (rr : Rg x1 ∧ Rg x2 ∧ Rg x3 ∧ Rg x4) (h : ((¬ (0 ≤ x1 ∧ x1 ≤ 5) → Q (some (.int (iz (-2)))) (Φ (mI A))) ∧ ((0 ≤ x1 ∧ x1 ≤ 5) → ((¬ (4 ≤ (x2.tdiv 100) ∧ (x2.tdiv 100) ≤ 40) → Q (some (.int (iz (-2)))) (Φ (mI A))) ∧ ((4 ≤ (x2.tdiv 100) ∧ (x2.tdiv 100) ≤ 40) → ((¬ (20 ≤ (x2.tmod 100) ∧ (x2.tmod 100) ≤ 60) → Q (some (.int (iz (-2)))) (Φ (mI A))) ∧ ((20 ≤ (x2.tmod 100) ∧ (x2.tmod 100) ≤ 60) → ((¬ (4 ≤ (x3.tdiv 100) ∧ (x3.tdiv 100) ≤ 24) → Q (some (.int (iz (-2)))) (Φ (mI A))) ∧ ((4 ≤ (x3.tdiv 100) ∧ (x3.tdiv 100) ≤ 24) → ((¬ (20 ≤ (x3.tmod 100) ∧ (x3.tmod 100) ≤ (x2.tmod 100)) → Q (some (.int (iz (-2)))) (Φ (mI A))) ∧ ((20 ≤ (x3.tmod 100) ∧ (x3.tmod 100) ≤ (x2.tmod 100)) → ((¬ (0 ≤ x4 ∧ x4 ≤ 9) → Q (some (.int (iz (-2)))) (Φ (mI A))) ∧ ((0 ≤ x4 ∧ x4 ≤ 9) → (Rg ((x2.tmod 100) * (x2.tdiv 100))) ∧ (Rg (2 * (x3.tdiv 100))) ∧ (0 < (2 * (x3.tdiv 100)) ∧ (2 * (x3.tdiv 100)) ≤ 2147483647) ∧ (Rg ((x2.tmod 100) - (x3.tmod 100))) ∧ (Rg (((x2.tmod 100) - (x3.tmod 100)) * (x2.tdiv 100))) ∧ (Rg ((((x2.tmod 100) * (x2.tdiv 100)).tdiv (2 * (x3.tdiv 100))) - 1)) ∧ (Rg ((x3.tdiv 100) * ((((x2.tmod 100) * (x2.tdiv 100)).tdiv (2 * (x3.tdiv 100))) - 1))) ∧ (((((((x2.tmod 100) - (x3.tmod 100)) * (x2.tdiv 100)).tdiv 2) ≤ ((x3.tdiv 100) * ((((x2.tmod 100) * (x2.tdiv 100)).tdiv (2 * (x3.tdiv 100))) - 1))) → ((((A 0 13) = 8) → Q (some (.int (iz (-4)))) (Φ (mI A))) ∧ (¬ ((A 0 13) = 8) → (0 ≤ (A 0 13) ∧ (A 0 13) < 8) ∧ (Rg ((x3.tdiv 100) * (((x2.tmod 100) * (x2.tdiv 100)).tdiv (2 * (x3.tdiv 100))))) ∧ (Rg (((x2.tmod 100) * (x2.tdiv 100)) - ((x3.tdiv 100) * (((x2.tmod 100) * (x2.tdiv 100)).tdiv (2 * (x3.tdiv 100)))))) ∧ (Rg ((A 0 13) + 1)) ∧ (Rg (((A 0 13) + 1) - 1)) ∧ Q (some (.int (iz (((A 0 13) + 1) - 1)))) (Φ (mI (UA (UA (UA (UA (UA (UA (UA (UA (UA (UA (UA A 11 (A 0 13) x1) 12 (A 0 13) (x2.tdiv 100)) 13 (A 0 13) (x2.tmod 100)) 14 (A 0 13) (x3.tmod 100)) 15 (A 0 13) (x3.tdiv 100)) 16 (A 0 13) x4) 17 (A 0 13) (((x2.tmod 100) * (x2.tdiv 100)).tdiv (2 * (x3.tdiv 100)))) 18 (A 0 13) (((x2.tmod 100) * (x2.tdiv 100)) - ((x3.tdiv 100) * (((x2.tmod 100) * (x2.tdiv 100)).tdiv (2 * (x3.tdiv 100)))))) 19 (A 0 13) ((((x2.tmod 100) - (x3.tmod 100)) * (x2.tdiv 100)).tdiv 2)) 20 (A 0 13) (-1)) 0 13 ((A 0 13) + 1))))))) ∧ (¬ (((((x2.tmod 100) - (x3.tmod 100)) * (x2.tdiv 100)).tdiv 2) ≤ ((x3.tdiv 100) * ((((x2.tmod 100) * (x2.tdiv 100)).tdiv (2 * (x3.tdiv 100))) - 1))) → Q (some (.int (iz (-2)))) (Φ (mI A))))))))))))))))) : wpE (xT 145) (xev xT d) Q (0, [(0, .ref m), (1, .int (iz x1)), (2, .int (iz x2)), (3, .int (iz x3)), (4, .int (iz x4))], [], Φ (mI A)) := by
  refine p_ild (cc3 c145_0) rfl ?_
  refine i_push (n := 100) (cc3 c145_1) zl_100 ?_
  refine i_div (cc3 c145_3) rr.2.1 (by decide) ?_
  refine p_ist (ls' := [(5, .int (iz (x2.tdiv 100))), (0, .ref m), (1, .int (iz x1)), (2, .int (iz x2)), (3, .int (iz x3)), (4, .int (iz x4))]) (cc3 c145_4) (by decide) rfl ?_
  refine p_ild (cc3 c145_6) rfl ?_
  refine i_push (n := 100) (cc3 c145_7) zl_100 ?_
  refine i_rem (cc3 c145_9) rr.2.1 (by decide) ?_
  refine p_ist (ls' := [(6, .int (iz (x2.tmod 100))), (5, .int (iz (x2.tdiv 100))), (0, .ref m), (1, .int (iz x1)), (2, .int (iz x2)), (3, .int (iz x3)), (4, .int (iz x4))]) (cc3 c145_10) (by decide) rfl ?_
  refine p_ild (cc3 c145_12) rfl ?_
  refine i_push (n := 100) (cc3 c145_13) zl_100 ?_
  refine i_div (cc3 c145_15) rr.2.2.1 (by decide) ?_
  refine p_ist (ls' := [(7, .int (iz (x3.tdiv 100))), (6, .int (iz (x2.tmod 100))), (5, .int (iz (x2.tdiv 100))), (0, .ref m), (1, .int (iz x1)), (2, .int (iz x2)), (3, .int (iz x3)), (4, .int (iz x4))]) (cc3 c145_16) (by decide) rfl ?_
  refine p_ild (cc3 c145_18) rfl ?_
  refine i_push (n := 100) (cc3 c145_19) zl_100 ?_
  refine i_rem (cc3 c145_21) rr.2.2.1 (by decide) ?_
  refine p_ist (ls' := [(8, .int (iz (x3.tmod 100))), (7, .int (iz (x3.tdiv 100))), (6, .int (iz (x2.tmod 100))), (5, .int (iz (x2.tdiv 100))), (0, .ref m), (1, .int (iz x1)), (2, .int (iz x2)), (3, .int (iz x3)), (4, .int (iz x4))]) (cc3 c145_22) (by decide) rfl ?_
  refine p_ald (cc3 c145_24) rfl ?_
  refine p_ild (cc3 c145_25) rfl ?_
  refine i_push (n := 0) (cc3 c145_26) zl_0 ?_
  refine i_push (n := 5) (cc3 c145_27) zl_5 ?_
  refine p_callV (cc3 c145_28) (Nat.le_of_ble_eq_true rfl) rfl rfl (Nat.le_of_ble_eq_true rfl) (ml_kd hΦ) (S129 (Nat.le_trans (by decide) hd) hΦ hR ⟨rr.1, (by decide), (by decide)⟩) ?_
  refine i_ifB (cc3 c145_31) (fun c => ?_) (fun c => ?_)
  · have h := h.1 c
    refine p_lc (ls' := []) c145_96 rfl rfl ?_
    refine i_push (n := (-2)) (cct c145_96 rfl) zl_m2 ?_
    exact p_ri (cc3 c145_98) trivial h
  · have h := h.2 c
    refine p_ald (cc3 c145_34) rfl ?_
    refine p_ild (cc3 c145_35) rfl ?_
    refine i_push (n := 4) (cc3 c145_37) zl_4 ?_
    refine i_push (n := 40) (cc3 c145_38) zl_40 ?_
    refine p_callV (cc3 c145_40) (Nat.le_of_ble_eq_true rfl) rfl rfl (Nat.le_of_ble_eq_true rfl) (ml_kd hΦ) (S129 (Nat.le_trans (by decide) hd) hΦ hR ⟨(rg_tdiv rr.2.1 (by decide : 0 < (100 : Int) ∧ (100 : Int) ≤ 2147483647).1), (by decide), (by decide)⟩) ?_
    refine i_ifB (cc3 c145_43) (fun c => ?_) (fun c => ?_)
    · have h := h.1 c
      refine p_lc (ls' := []) c145_96 rfl rfl ?_
      refine i_push (n := (-2)) (cct c145_96 rfl) zl_m2 ?_
      exact p_ri (cc3 c145_98) trivial h
    · have h := h.2 c
      refine p_ald (cc3 c145_46) rfl ?_
      refine p_ild (cc3 c145_47) rfl ?_
      refine i_push (n := 20) (cc3 c145_49) zl_20 ?_
      refine i_push (n := 60) (cc3 c145_51) zl_60 ?_
      refine p_callV (cc3 c145_53) (Nat.le_of_ble_eq_true rfl) rfl rfl (Nat.le_of_ble_eq_true rfl) (ml_kd hΦ) (S129 (Nat.le_trans (by decide) hd) hΦ hR ⟨(rg_tmod rr.2.1 (by decide : 0 < (100 : Int) ∧ (100 : Int) ≤ 2147483647).1), (by decide), (by decide)⟩) ?_
      refine i_ifB (cc3 c145_56) (fun c => ?_) (fun c => ?_)
      · have h := h.1 c
        refine p_lc (ls' := []) c145_96 rfl rfl ?_
        refine i_push (n := (-2)) (cct c145_96 rfl) zl_m2 ?_
        exact p_ri (cc3 c145_98) trivial h
      · have h := h.2 c
        refine p_ald (cc3 c145_59) rfl ?_
        refine p_ild (cc3 c145_60) rfl ?_
        refine i_push (n := 4) (cc3 c145_62) zl_4 ?_
        refine i_push (n := 24) (cc3 c145_63) zl_24 ?_
        refine p_callV (cc3 c145_65) (Nat.le_of_ble_eq_true rfl) rfl rfl (Nat.le_of_ble_eq_true rfl) (ml_kd hΦ) (S129 (Nat.le_trans (by decide) hd) hΦ hR ⟨(rg_tdiv rr.2.2.1 (by decide : 0 < (100 : Int) ∧ (100 : Int) ≤ 2147483647).1), (by decide), (by decide)⟩) ?_
        refine i_ifB (cc3 c145_68) (fun c => ?_) (fun c => ?_)
        · have h := h.1 c
          refine p_lc (ls' := []) c145_96 rfl rfl ?_
          refine i_push (n := (-2)) (cct c145_96 rfl) zl_m2 ?_
          exact p_ri (cc3 c145_98) trivial h
        · have h := h.2 c
          refine p_ald (cc3 c145_71) rfl ?_
          refine p_ild (cc3 c145_72) rfl ?_
          refine i_push (n := 20) (cc3 c145_74) zl_20 ?_
          refine p_ild (cc3 c145_76) rfl ?_
          refine p_callV (cc3 c145_78) (Nat.le_of_ble_eq_true rfl) rfl rfl (Nat.le_of_ble_eq_true rfl) (ml_kd hΦ) (S129 (Nat.le_trans (by decide) hd) hΦ hR ⟨(rg_tmod rr.2.2.1 (by decide : 0 < (100 : Int) ∧ (100 : Int) ≤ 2147483647).1), (by decide), (rg_tmod rr.2.1 (by decide : 0 < (100 : Int) ∧ (100 : Int) ≤ 2147483647).1)⟩) ?_
          refine i_ifB (cc3 c145_81) (fun c => ?_) (fun c => ?_)
          · have h := h.1 c
            refine p_lc (ls' := []) c145_96 rfl rfl ?_
            refine i_push (n := (-2)) (cct c145_96 rfl) zl_m2 ?_
            exact p_ri (cc3 c145_98) trivial h
          · have h := h.2 c
            refine p_ald (cc3 c145_84) rfl ?_
            refine p_ild (cc3 c145_85) rfl ?_
            refine i_push (n := 0) (cc3 c145_87) zl_0 ?_
            refine i_push (n := 9) (cc3 c145_88) zl_9 ?_
            refine p_callV (cc3 c145_90) (Nat.le_of_ble_eq_true rfl) rfl rfl (Nat.le_of_ble_eq_true rfl) (ml_kd hΦ) (S129 (Nat.le_trans (by decide) hd) hΦ hR ⟨rr.2.2.2, (by decide), (by decide)⟩) ?_
            refine i_ifB (cc3 c145_93) (fun c => ?_) (fun c => ?_)
            · have h := h.1 c
              refine p_lc (ls' := []) c145_96 rfl rfl ?_
              refine i_push (n := (-2)) (cct c145_96 rfl) zl_m2 ?_
              exact p_ri (cc3 c145_98) trivial h
            · have h := h.2 c
              refine p_ild (cc3 c145_99) rfl ?_
              refine p_ild (cc3 c145_101) rfl ?_
              obtain ⟨g1, h⟩ := h
              refine (fun _ : Rg ((x2.tmod 100) * (x2.tdiv 100)) => i_mul (cc3 c145_103) ?_) g1
              refine i_push (n := 2) (cc3 c145_104) zl_2 ?_
              refine p_ild (cc3 c145_105) rfl ?_
              obtain ⟨g2, h⟩ := h
              refine (fun _ : Rg (2 * (x3.tdiv 100)) => i_mul (cc3 c145_107) ?_) g2
              obtain ⟨g3, h⟩ := h
              refine i_div (cc3 c145_108) g1 g3 ?_
              refine p_ist (ls' := [(9, .int (iz (((x2.tmod 100) * (x2.tdiv 100)).tdiv (2 * (x3.tdiv 100))))), (8, .int (iz (x3.tmod 100))), (7, .int (iz (x3.tdiv 100))), (6, .int (iz (x2.tmod 100))), (5, .int (iz (x2.tdiv 100))), (0, .ref m), (1, .int (iz x1)), (2, .int (iz x2)), (3, .int (iz x3)), (4, .int (iz x4))]) (cc3 c145_109) (by decide) rfl ?_
              refine p_ild (cc3 c145_111) rfl ?_
              refine p_ild (cc3 c145_113) rfl ?_
              obtain ⟨g4, h⟩ := h
              refine (fun _ : Rg ((x2.tmod 100) - (x3.tmod 100)) => i_sub (cc3 c145_115) ?_) g4
              refine p_ild (cc3 c145_116) rfl ?_
              obtain ⟨g5, h⟩ := h
              refine (fun _ : Rg (((x2.tmod 100) - (x3.tmod 100)) * (x2.tdiv 100)) => i_mul (cc3 c145_118) ?_) g5
              refine i_push (n := 2) (cc3 c145_119) zl_2 ?_
              refine i_div (cc3 c145_120) g5 (by decide) ?_
              refine p_ist (ls' := [(10, .int (iz ((((x2.tmod 100) - (x3.tmod 100)) * (x2.tdiv 100)).tdiv 2))), (9, .int (iz (((x2.tmod 100) * (x2.tdiv 100)).tdiv (2 * (x3.tdiv 100))))), (8, .int (iz (x3.tmod 100))), (7, .int (iz (x3.tdiv 100))), (6, .int (iz (x2.tmod 100))), (5, .int (iz (x2.tdiv 100))), (0, .ref m), (1, .int (iz x1)), (2, .int (iz x2)), (3, .int (iz x3)), (4, .int (iz x4))]) (cc3 c145_121) (by decide) rfl ?_
              refine p_ild (cc3 c145_123) rfl ?_
              refine p_ild (cc3 c145_125) rfl ?_
              refine p_ild (cc3 c145_127) rfl ?_
              refine i_push (n := 1) (cc3 c145_129) zl_1 ?_
              obtain ⟨g6, h⟩ := h
              refine (fun _ : Rg ((((x2.tmod 100) * (x2.tdiv 100)).tdiv (2 * (x3.tdiv 100))) - 1) => i_sub (cc3 c145_130) ?_) g6
              obtain ⟨g7, h⟩ := h
              refine (fun _ : Rg ((x3.tdiv 100) * ((((x2.tmod 100) * (x2.tdiv 100)).tdiv (2 * (x3.tdiv 100))) - 1)) => i_mul (cc3 c145_131) ?_) g7
              refine i_icmp (c' := ((((x2.tmod 100) - (x3.tmod 100)) * (x2.tdiv 100)).tdiv 2) ≤ ((x3.tdiv 100) * ((((x2.tmod 100) * (x2.tdiv 100)).tdiv (2 * (x3.tdiv 100))) - 1))) (cc3 c145_132) (iz_le (rg_tdiv g5 (by decide : 0 < (2 : Int) ∧ (2 : Int) ≤ 2147483647).1) g7) (fun c => ?_) (fun c => ?_)
              · have h := h.1 c
                refine p_ald (cc3 c145_138) rfl ?_
                refine n_geti hΦ (v := A 0 13) (cc3 c145_139) (ji := 13) rfl rfl ?_
                refine i_push (n := 8) (cc3 c145_142) zl_8 ?_
                refine i_icmp (c' := (A 0 13) = 8) (cc3 c145_144) (iz_inj (hR 0 13) (by decide)) (fun c => ?_) (fun c => ?_)
                · have h := h.1 c
                  refine i_push (n := (-4)) (cc3 c145_147) zl_m4 ?_
                  exact p_ri (cc3 c145_149) trivial h
                · have h := h.2 c
                  refine p_ald (cc3 c145_150) rfl ?_
                  refine pm_getp hΦ (cc3 c145_151) (c := 11) rfl (by decide) ?_
                  refine p_ald (cc3 c145_154) rfl ?_
                  refine n_geti hΦ (v := A 0 13) (cc3 c145_155) (ji := 13) rfl rfl ?_
                  refine p_ild (cc3 c145_158) rfl ?_
                  obtain ⟨g8, h⟩ := h
                  refine id (α := Rg x1 → _) (fun _ => ?_) rr.1; refine n_asti hΦ (c := 11) (n := 8) (ni := 8) (hv := rfl) (cc3 c145_159) (by decide) rfl rfl rfl (by decide) g8 ?_
                  refine p_ald (cc3 c145_160) rfl ?_
                  refine pm_getp hΦ (cc3 c145_161) (c := 12) rfl (by decide) ?_
                  refine p_ald (cc3 c145_164) rfl ?_
                  refine n_geti hΦ (v := A 0 13) (cc3 c145_165) (ji := 13) rfl rfl ?_
                  refine p_ild (cc3 c145_168) rfl ?_
                  refine id (α := Rg (x2.tdiv 100) → _) (fun _ => ?_) (rg_tdiv rr.2.1 (by decide : 0 < (100 : Int) ∧ (100 : Int) ≤ 2147483647).1); refine n_asti hΦ (c := 12) (n := 8) (ni := 8) (hv := rfl) (cc3 c145_170) (by decide) rfl rfl rfl (by decide) g8 ?_
                  refine p_ald (cc3 c145_171) rfl ?_
                  refine pm_getp hΦ (cc3 c145_172) (c := 13) rfl (by decide) ?_
                  refine p_ald (cc3 c145_175) rfl ?_
                  refine n_geti hΦ (v := A 0 13) (cc3 c145_176) (ji := 13) rfl rfl ?_
                  refine p_ild (cc3 c145_179) rfl ?_
                  refine id (α := Rg (x2.tmod 100) → _) (fun _ => ?_) (rg_tmod rr.2.1 (by decide : 0 < (100 : Int) ∧ (100 : Int) ≤ 2147483647).1); refine n_asti hΦ (c := 13) (n := 8) (ni := 8) (hv := rfl) (cc3 c145_181) (by decide) rfl rfl rfl (by decide) g8 ?_
                  refine p_ald (cc3 c145_182) rfl ?_
                  refine pm_getp hΦ (cc3 c145_183) (c := 14) rfl (by decide) ?_
                  refine p_ald (cc3 c145_186) rfl ?_
                  refine n_geti hΦ (v := A 0 13) (cc3 c145_187) (ji := 13) rfl rfl ?_
                  refine p_ild (cc3 c145_190) rfl ?_
                  refine id (α := Rg (x3.tmod 100) → _) (fun _ => ?_) (rg_tmod rr.2.2.1 (by decide : 0 < (100 : Int) ∧ (100 : Int) ≤ 2147483647).1); refine n_asti hΦ (c := 14) (n := 8) (ni := 8) (hv := rfl) (cc3 c145_192) (by decide) rfl rfl rfl (by decide) g8 ?_
                  refine p_ald (cc3 c145_193) rfl ?_
                  refine pm_getp hΦ (cc3 c145_194) (c := 15) rfl (by decide) ?_
                  refine p_ald (cc3 c145_197) rfl ?_
                  refine n_geti hΦ (v := A 0 13) (cc3 c145_198) (ji := 13) rfl rfl ?_
                  refine p_ild (cc3 c145_201) rfl ?_
                  refine id (α := Rg (x3.tdiv 100) → _) (fun _ => ?_) (rg_tdiv rr.2.2.1 (by decide : 0 < (100 : Int) ∧ (100 : Int) ≤ 2147483647).1); refine n_asti hΦ (c := 15) (n := 8) (ni := 8) (hv := rfl) (cc3 c145_203) (by decide) rfl rfl rfl (by decide) g8 ?_
                  refine p_ald (cc3 c145_204) rfl ?_
                  refine pm_getp hΦ (cc3 c145_205) (c := 16) rfl (by decide) ?_
                  refine p_ald (cc3 c145_208) rfl ?_
                  refine n_geti hΦ (v := A 0 13) (cc3 c145_209) (ji := 13) rfl rfl ?_
                  refine p_ild (cc3 c145_212) rfl ?_
                  refine id (α := Rg x4 → _) (fun _ => ?_) rr.2.2.2; refine n_asti hΦ (c := 16) (n := 8) (ni := 8) (hv := rfl) (cc3 c145_214) (by decide) rfl rfl rfl (by decide) g8 ?_
                  refine p_ald (cc3 c145_215) rfl ?_
                  refine pm_getp hΦ (cc3 c145_216) (c := 17) rfl (by decide) ?_
                  refine p_ald (cc3 c145_219) rfl ?_
                  refine n_geti hΦ (v := A 0 13) (cc3 c145_220) (ji := 13) rfl rfl ?_
                  refine p_ild (cc3 c145_223) rfl ?_
                  refine id (α := Rg (((x2.tmod 100) * (x2.tdiv 100)).tdiv (2 * (x3.tdiv 100))) → _) (fun _ => ?_) (rg_tdiv g1 g3.1); refine n_asti hΦ (c := 17) (n := 8) (ni := 8) (hv := rfl) (cc3 c145_225) (by decide) rfl rfl rfl (by decide) g8 ?_
                  refine p_ald (cc3 c145_226) rfl ?_
                  refine pm_getp hΦ (cc3 c145_227) (c := 18) rfl (by decide) ?_
                  refine p_ald (cc3 c145_230) rfl ?_
                  refine n_geti hΦ (v := A 0 13) (cc3 c145_231) (ji := 13) rfl rfl ?_
                  refine p_ild (cc3 c145_234) rfl ?_
                  refine p_ild (cc3 c145_236) rfl ?_
                  refine (fun _ : Rg ((x2.tmod 100) * (x2.tdiv 100)) => i_mul (cc3 c145_238) ?_) g1
                  refine p_ild (cc3 c145_239) rfl ?_
                  refine p_ild (cc3 c145_241) rfl ?_
                  obtain ⟨g9, h⟩ := h
                  refine (fun _ : Rg ((x3.tdiv 100) * (((x2.tmod 100) * (x2.tdiv 100)).tdiv (2 * (x3.tdiv 100)))) => i_mul (cc3 c145_243) ?_) g9
                  obtain ⟨g10, h⟩ := h
                  refine (fun _ : Rg (((x2.tmod 100) * (x2.tdiv 100)) - ((x3.tdiv 100) * (((x2.tmod 100) * (x2.tdiv 100)).tdiv (2 * (x3.tdiv 100))))) => i_sub (cc3 c145_244) ?_) g10
                  refine id (α := Rg (((x2.tmod 100) * (x2.tdiv 100)) - ((x3.tdiv 100) * (((x2.tmod 100) * (x2.tdiv 100)).tdiv (2 * (x3.tdiv 100))))) → _) (fun _ => ?_) g10; refine n_asti hΦ (c := 18) (n := 8) (ni := 8) (hv := rfl) (cc3 c145_245) (by decide) rfl rfl rfl (by decide) g8 ?_
                  refine p_ald (cc3 c145_246) rfl ?_
                  refine pm_getp hΦ (cc3 c145_247) (c := 19) rfl (by decide) ?_
                  refine p_ald (cc3 c145_250) rfl ?_
                  refine n_geti hΦ (v := A 0 13) (cc3 c145_251) (ji := 13) rfl rfl ?_
                  refine p_ild (cc3 c145_254) rfl ?_
                  refine id (α := Rg ((((x2.tmod 100) - (x3.tmod 100)) * (x2.tdiv 100)).tdiv 2) → _) (fun _ => ?_) (rg_tdiv g5 (by decide : 0 < (2 : Int) ∧ (2 : Int) ≤ 2147483647).1); refine n_asti hΦ (c := 19) (n := 8) (ni := 8) (hv := rfl) (cc3 c145_256) (by decide) rfl rfl rfl (by decide) g8 ?_
                  refine p_ald (cc3 c145_257) rfl ?_
                  refine pm_getp hΦ (cc3 c145_258) (c := 20) rfl (by decide) ?_
                  refine p_ald (cc3 c145_261) rfl ?_
                  refine n_geti hΦ (v := A 0 13) (cc3 c145_262) (ji := 13) rfl rfl ?_
                  refine i_push (n := (-1)) (cc3 c145_265) zl_m1 ?_
                  refine id (α := Rg (-1) → _) (fun _ => ?_) (by decide); refine n_asti hΦ (c := 20) (n := 8) (ni := 8) (hv := rfl) (cc3 c145_266) (by decide) rfl rfl rfl (by decide) g8 ?_
                  refine p_ald (cc3 c145_267) rfl ?_
                  refine p_dup (cc3 c145_268) rfl ?_
                  refine n_geti hΦ (v := A 0 13) (cc3 c145_269) (ji := 13) rfl rfl ?_
                  refine i_push (n := 1) (cc3 c145_272) zl_1 ?_
                  obtain ⟨g11, h⟩ := h
                  refine (fun _ : Rg ((A 0 13) + 1) => i_add (cc3 c145_273) ?_) g11
                  refine (fun _ : Rg ((A 0 13) + 1) => n_puti hΦ (cc3 c145_274) (ji := 13) rfl ?_) g11
                  refine p_ald (cc3 c145_277) rfl ?_
                  refine n_geti hΦ (v := (A 0 13) + 1) (cc3 c145_278) (ji := 13) rfl rfl ?_
                  refine i_push (n := 1) (cc3 c145_281) zl_1 ?_
                  obtain ⟨g12, h⟩ := h
                  refine (fun _ : Rg (((A 0 13) + 1) - 1) => i_sub (cc3 c145_282) ?_) g12
                  exact p_ri (cc3 c145_283) trivial h
              · have h := h.2 c
                refine i_push (n := (-2)) (cc3 c145_135) zl_m2 ?_
                exact p_ri (cc3 c145_137) trivial h
theorem S145 {d : Nat} (hd : 2 ≤ d) {m : Nat} {Φ : (Nat → Nat → Int32) → xM} (hΦ : MLaw m Φ) {A : Nat → Int → Int} (hR : RG A) {x1 x2 x3 x4 : Int} (rr : Rg x1 ∧ Rg x2 ∧ Rg x3 ∧ Rg x4) (hp : (0 ≤ A 0 13 ∧ A 0 13 ≤ 8)) : xev xT d 145 [.ref m, .int (iz x1), .int (iz x2), .int (iz x3), .int (iz x4)] (Φ (mI A)) (some (.int (iz (m_kilt_r A x1 (Int.tdiv x2 100) (Int.tmod x2 100) (Int.tdiv x3 100) (Int.tmod x3 100) x4)))) (Φ (mI (m_kilt_n A x1 (Int.tdiv x2 100) (Int.tmod x2 100) (Int.tdiv x3 100) (Int.tmod x3 100) x4))) := by
  refine xev_i (D := 1) hd (Nat.le_of_ble_eq_true rfl) (fun d hd => V145_0 hd hΦ hR rr ?_)

  generalize x2.tdiv 100 = i
  generalize x2.tmod 100 = hp_
  generalize x3.tdiv 100 = n
  generalize x3.tmod 100 = w
  unfold m_kilt_r m_kilt_n
  refine ⟨fun h => ⟨by rw [if_neg (by unfold m_kilt_ok; omega)], by rw [if_neg (by unfold m_kilt_ok; omega)]⟩, fun h1 => ?_⟩
  refine ⟨fun h => ⟨by rw [if_neg (by unfold m_kilt_ok; omega)], by rw [if_neg (by unfold m_kilt_ok; omega)]⟩, fun h2 => ?_⟩
  refine ⟨fun h => ⟨by rw [if_neg (by unfold m_kilt_ok; omega)], by rw [if_neg (by unfold m_kilt_ok; omega)]⟩, fun h3 => ?_⟩
  refine ⟨fun h => ⟨by rw [if_neg (by unfold m_kilt_ok; omega)], by rw [if_neg (by unfold m_kilt_ok; omega)]⟩, fun h4 => ?_⟩
  refine ⟨fun h => ⟨by rw [if_neg (by unfold m_kilt_ok; omega)], by rw [if_neg (by unfold m_kilt_ok; omega)]⟩, fun h5 => ?_⟩
  refine ⟨fun h => ⟨by rw [if_neg (by unfold m_kilt_ok; omega)], by rw [if_neg (by unfold m_kilt_ok; omega)]⟩, fun h6 => ?_⟩
  have a1 := mul_b (a := hp_) (b := i) (M := 60) (N := 40) (by omega) (by omega) (by omega) (by omega)
  have a2 := mul_b (a := hp_ - w) (b := i) (M := 40) (N := 40) (by omega) (by omega) (by omega) (by omega)
  have b1 := tdiv_le (y := 2 * n) a1.1 a1.2 (by omega)
  rw [tdiv_pos a1.1] at b1 ⊢
  rw [tdiv_pos a2.1]
  have c1 := mul_b (a := n) (b := hp_ * i / (2 * n)) (M := 24) (N := 2400) (by omega) (by omega) b1.1 (by omega)
  have c2 : n * (hp_ * i / (2 * n) - 1) = n * (hp_ * i / (2 * n)) - n := by rw [Int.mul_sub, Int.mul_one]
  refine ⟨by omega, by omega, by omega, by omega, by omega, by omega, by omega, fun h7 => ?_, fun h7 => ?_⟩
  · have ok : m_kilt_ok x1 i hp_ n w x4 := ⟨h1, h2, h3, h4, h5, h6, h7⟩
    refine ⟨fun h8 => ⟨by rw [if_pos ok, if_pos h8], by rw [if_neg (fun q => q.2 h8)]⟩, fun h8 => ⟨by omega, by omega, by omega, by omega, by omega, ?_, ?_⟩⟩
    · rw [if_pos ok, if_neg h8]; congr 3; omega
    · rw [if_pos ⟨ok, h8⟩]
  · exact ⟨by rw [if_neg (fun q => h7 q.2.2.2.2.2.2)], by rw [if_neg (fun q => h7 q.1.2.2.2.2.2.2)]⟩
def m_kiltTold (A : Nat → Int → Int) (k w : Int) : Int := if 0 ≤ k ∧ k ≤ A 0 13 - 1 then (if w = 0 then A 11 k else if w = 1 then A 17 k else if w = 2 then A 18 k else if w = 3 then A 19 k else if w = 4 then A 15 k else if w = 5 then A 20 k else if w = 6 then (if A 20 k < 0 then -1 else A 25 k) else if w = 7 then (if 0 ≤ A 20 k ∧ ¬ A 28 k = 0 then 1 else 0) else if w = 8 then A 12 k else if w = 9 then A 13 k else if w = 10 then A 14 k else -2) else -2
def m_laid (A : Nat → Int → Int) (k w : Int) : Int := if (0 ≤ k ∧ k ≤ A 0 13 - 1) ∧ 0 ≤ w ∧ w ≤ 4 then (if A 20 k < 0 then -3 else if w = 0 then A 21 k else if w = 1 then A 22 k else if w = 2 then A 22 k + A 18 k else if w = 3 then A 23 k else A 24 k) else -2
def m_pleat (A : Nat → Int → Int) (k p w : Int) : Int := if (0 ≤ k ∧ k ≤ A 0 13 - 1) ∧ (0 ≤ p ∧ p ≤ A 15 k - 1) ∧ (0 ≤ w ∧ w ≤ 3) then (if w = 2 then m_loses A k p else if A 20 k < 0 then -3 else if w = 0 then A 26 (24 * k + p) else if w = 1 then A 27 (24 * k + p) else m_behind A k p - A 26 (24 * k + p) - A 25 k) else -2
def m_aro (A : Nat → Int → Int) (k w : Int) : Int := A 15 k * A 25 k - (if w = 0 then 0 else A 19 k)
def m_around (A : Nat → Int → Int) (k w : Int) : Int := if 0 ≤ k ∧ k ≤ A 0 13 - 1 then (if A 20 k < 0 then -3 else m_aro A k w) else -2
def m_force_r (A : Nat → Int → Int) (t : Int) : Int := if 0 ≤ t ∧ t ≤ A 0 42 - 1 then A 0 43 else -2
def m_force_n (A : Nat → Int → Int) (t : Int) : Nat → Int → Int := if 0 ≤ t ∧ t ≤ A 0 42 - 1 then UA A 0 43 t else A
def m_turn_r (A : Nat → Int → Int) (k : Int) : Int := if 0 ≤ k ∧ k ≤ A 0 13 - 1 then (if A 20 k < 0 then -3 else if A 28 k = 0 then 1 else 0) else -2
def m_turn_n (A : Nat → Int → Int) (k : Int) : Nat → Int → Int := if (0 ≤ k ∧ k ≤ A 0 13 - 1) ∧ ¬ A 20 k < 0 then UA A 28 k (if A 28 k = 0 then 1 else 0) else A
theorem V146_0 {d : Nat} (hd : 2 ≤ d) {Q : Option Value → xM → Prop} {m : Nat} {Φ : (Nat → Nat → Int32) → xM} (hΦ : MLaw m Φ) {A : Nat → Int → Int} (hR : RG A) {x1 x2 : Int} (rr : Rg x1 ∧ Rg x2) (h : (0 ≤ A 0 13) ∧ ((¬ (0 ≤ x1 ∧ x1 ≤ A 0 13 - 1) → Q (some (.int (iz (-2)))) (Φ (mI A))) ∧ ((0 ≤ x1 ∧ x1 ≤ A 0 13 - 1) → (((x2 = 0) → (0 ≤ x1 ∧ x1 < 8) ∧ Q (some (.int (iz (A 11 x1)))) (Φ (mI A))) ∧ (¬ (x2 = 0) → ((x2 = 1) → (0 ≤ x1 ∧ x1 < 8) ∧ Q (some (.int (iz (A 17 x1)))) (Φ (mI A))) ∧ (¬ (x2 = 1) → ((x2 = 2) → (0 ≤ x1 ∧ x1 < 8) ∧ Q (some (.int (iz (A 18 x1)))) (Φ (mI A))) ∧ (¬ (x2 = 2) → ((x2 = 3) → (0 ≤ x1 ∧ x1 < 8) ∧ Q (some (.int (iz (A 19 x1)))) (Φ (mI A))) ∧ (¬ (x2 = 3) → ((x2 = 4) → (0 ≤ x1 ∧ x1 < 8) ∧ Q (some (.int (iz (A 15 x1)))) (Φ (mI A))) ∧ (¬ (x2 = 4) → ((x2 = 5) → (0 ≤ x1 ∧ x1 < 8) ∧ Q (some (.int (iz (A 20 x1)))) (Φ (mI A))) ∧ (¬ (x2 = 5) → ((x2 = 6) → (0 ≤ x1 ∧ x1 < 8) ∧ (((0 ≤ (A 20 x1)) → Q (some (.int (iz (A 25 x1)))) (Φ (mI A))) ∧ (¬ (0 ≤ (A 20 x1)) → Q (some (.int (iz (-1)))) (Φ (mI A))))) ∧ (¬ (x2 = 6) → ((x2 = 7) → (0 ≤ x1 ∧ x1 < 8) ∧ ((((A 20 x1) < 0) → Q (some (.int (iz 0))) (Φ (mI A))) ∧ (¬ ((A 20 x1) < 0) → ((((A 28 x1) = 0) → Q (some (.int (iz 0))) (Φ (mI A))) ∧ (¬ ((A 28 x1) = 0) → Q (some (.int (iz 1))) (Φ (mI A))))))) ∧ (¬ (x2 = 7) → ((x2 = 8) → (0 ≤ x1 ∧ x1 < 8) ∧ Q (some (.int (iz (A 12 x1)))) (Φ (mI A))) ∧ (¬ (x2 = 8) → ((x2 = 9) → (0 ≤ x1 ∧ x1 < 8) ∧ Q (some (.int (iz (A 13 x1)))) (Φ (mI A))) ∧ (¬ (x2 = 9) → ((x2 = 10) → (0 ≤ x1 ∧ x1 < 8) ∧ Q (some (.int (iz (A 14 x1)))) (Φ (mI A))) ∧ (¬ (x2 = 10) → Q (some (.int (iz (-2)))) (Φ (mI A))))))))))))))))) : wpE (xT 146) (xev xT d) Q (0, [(0, .ref m), (1, .int (iz x1)), (2, .int (iz x2))], [], Φ (mI A)) := by
  refine p_ald (cc3 c146_0) rfl ?_
  refine p_ild (cc3 c146_1) rfl ?_
  obtain ⟨g1, h⟩ := h
  refine p_callV (cc3 c146_2) (Nat.le_of_ble_eq_true rfl) rfl rfl (Nat.le_of_ble_eq_true rfl) (ml_kd hΦ) (S147 (Nat.le_trans (by decide) hd) hΦ hR rr.1 g1) ?_
  refine i_ifB (cc3 c146_5) (fun c => ?_) (fun c => ?_)
  · have h := h.1 c
    refine i_push (n := (-2)) (cc3 c146_8) zl_m2 ?_
    exact p_ri (cc3 c146_10) trivial h
  · have h := h.2 c
    refine p_ild (cc3 c146_11) rfl ?_
    refine (fun _ : Rg x2 => p_sw (cc3 c146_12) ?_) rr.2
    refine sw_c (n := 0) rr.2 zl_0 (by decide) (fun c => ?_) (fun c => ?_)
    · have h := h.1 c
      refine p_ald (cc3 c146_72) rfl ?_
      refine pm_getp hΦ (cc3 c146_73) (c := 11) rfl (by decide) ?_
      refine p_ild (cc3 c146_76) rfl ?_
      obtain ⟨g2, h⟩ := h
      refine n_aldi hΦ (c := 11) (n := 8) (ni := 8) (cc3 c146_77) (by decide) rfl rfl rfl (by decide) g2 (v := A 11 x1) rfl ?_
      exact p_ri (cc3 c146_78) trivial h
    · have h := h.2 c
      refine sw_c (n := 1) rr.2 zl_1 (by decide) (fun c => ?_) (fun c => ?_)
      · have h := h.1 c
        refine p_ald (cc3 c146_79) rfl ?_
        refine pm_getp hΦ (cc3 c146_80) (c := 17) rfl (by decide) ?_
        refine p_ild (cc3 c146_83) rfl ?_
        obtain ⟨g2, h⟩ := h
        refine n_aldi hΦ (c := 17) (n := 8) (ni := 8) (cc3 c146_84) (by decide) rfl rfl rfl (by decide) g2 (v := A 17 x1) rfl ?_
        exact p_ri (cc3 c146_85) trivial h
      · have h := h.2 c
        refine sw_c (n := 2) rr.2 zl_2 (by decide) (fun c => ?_) (fun c => ?_)
        · have h := h.1 c
          refine p_ald (cc3 c146_86) rfl ?_
          refine pm_getp hΦ (cc3 c146_87) (c := 18) rfl (by decide) ?_
          refine p_ild (cc3 c146_90) rfl ?_
          obtain ⟨g2, h⟩ := h
          refine n_aldi hΦ (c := 18) (n := 8) (ni := 8) (cc3 c146_91) (by decide) rfl rfl rfl (by decide) g2 (v := A 18 x1) rfl ?_
          exact p_ri (cc3 c146_92) trivial h
        · have h := h.2 c
          refine sw_c (n := 3) rr.2 zl_3 (by decide) (fun c => ?_) (fun c => ?_)
          · have h := h.1 c
            refine p_ald (cc3 c146_93) rfl ?_
            refine pm_getp hΦ (cc3 c146_94) (c := 19) rfl (by decide) ?_
            refine p_ild (cc3 c146_97) rfl ?_
            obtain ⟨g2, h⟩ := h
            refine n_aldi hΦ (c := 19) (n := 8) (ni := 8) (cc3 c146_98) (by decide) rfl rfl rfl (by decide) g2 (v := A 19 x1) rfl ?_
            exact p_ri (cc3 c146_99) trivial h
          · have h := h.2 c
            refine sw_c (n := 4) rr.2 zl_4 (by decide) (fun c => ?_) (fun c => ?_)
            · have h := h.1 c
              refine p_ald (cc3 c146_100) rfl ?_
              refine pm_getp hΦ (cc3 c146_101) (c := 15) rfl (by decide) ?_
              refine p_ild (cc3 c146_104) rfl ?_
              obtain ⟨g2, h⟩ := h
              refine n_aldi hΦ (c := 15) (n := 8) (ni := 8) (cc3 c146_105) (by decide) rfl rfl rfl (by decide) g2 (v := A 15 x1) rfl ?_
              exact p_ri (cc3 c146_106) trivial h
            · have h := h.2 c
              refine sw_c (n := 5) rr.2 zl_5 (by decide) (fun c => ?_) (fun c => ?_)
              · have h := h.1 c
                refine p_ald (cc3 c146_107) rfl ?_
                refine pm_getp hΦ (cc3 c146_108) (c := 20) rfl (by decide) ?_
                refine p_ild (cc3 c146_111) rfl ?_
                obtain ⟨g2, h⟩ := h
                refine n_aldi hΦ (c := 20) (n := 8) (ni := 8) (cc3 c146_112) (by decide) rfl rfl rfl (by decide) g2 (v := A 20 x1) rfl ?_
                exact p_ri (cc3 c146_113) trivial h
              · have h := h.2 c
                refine sw_c (n := 6) rr.2 zl_6 (by decide) (fun c => ?_) (fun c => ?_)
                · have h := h.1 c
                  refine p_ald (cc3 c146_114) rfl ?_
                  refine pm_getp hΦ (cc3 c146_115) (c := 20) rfl (by decide) ?_
                  refine p_ild (cc3 c146_118) rfl ?_
                  obtain ⟨g2, h⟩ := h
                  refine n_aldi hΦ (c := 20) (n := 8) (ni := 8) (cc3 c146_119) (by decide) rfl rfl rfl (by decide) g2 (v := A 20 x1) rfl ?_
                  refine i_if (c' := 0 ≤ (A 20 x1)) (cc3 c146_120) (c_ge0 (hR 20 x1)) (fun c => ?_) (fun c => ?_)
                  · have h := h.1 c
                    refine p_ald (cc3 c146_127) rfl ?_
                    refine pm_getp hΦ (cc3 c146_128) (c := 25) rfl (by decide) ?_
                    refine p_ild (cc3 c146_131) rfl ?_
                    refine n_aldi hΦ (c := 25) (n := 8) (ni := 8) (cc3 c146_132) (by decide) rfl rfl rfl (by decide) g2 (v := A 25 x1) rfl ?_
                    refine p_lc (ls' := []) c146_133 rfl rfl ?_
                    exact p_ri (cct c146_133 rfl) trivial h
                  · have h := h.2 c
                    refine i_push (n := (-1)) (cc3 c146_123) zl_m1 ?_
                    refine p_goto (cc3 c146_124) ?_
                    refine p_lc (ls' := []) c146_133 rfl rfl ?_
                    exact p_ri (cct c146_133 rfl) trivial h
                · have h := h.2 c
                  refine sw_c (n := 7) rr.2 zl_7 (by decide) (fun c => ?_) (fun c => ?_)
                  · have h := h.1 c
                    refine p_ald (cc3 c146_134) rfl ?_
                    refine pm_getp hΦ (cc3 c146_135) (c := 20) rfl (by decide) ?_
                    refine p_ild (cc3 c146_138) rfl ?_
                    obtain ⟨g2, h⟩ := h
                    refine n_aldi hΦ (c := 20) (n := 8) (ni := 8) (cc3 c146_139) (by decide) rfl rfl rfl (by decide) g2 (v := A 20 x1) rfl ?_
                    refine i_if (c' := (A 20 x1) < 0) (cc3 c146_140) (c_lt0 (hR 20 x1)) (fun c => ?_) (fun c => ?_)
                    · have h := h.1 c
                      refine p_lc (ls' := []) c146_156 rfl rfl ?_
                      refine i_push (n := 0) (cct c146_156 rfl) zl_0 ?_
                      exact p_ri (cct c146_157 rfl) trivial h
                    · have h := h.2 c
                      refine p_ald (cc3 c146_143) rfl ?_
                      refine pm_getp hΦ (cc3 c146_144) (c := 28) rfl (by decide) ?_
                      refine p_ild (cc3 c146_147) rfl ?_
                      refine n_aldi hΦ (c := 28) (n := 8) (ni := 8) (cc3 c146_148) (by decide) rfl rfl rfl (by decide) g2 (v := A 28 x1) rfl ?_
                      refine i_if (c' := (A 28 x1) = 0) (cc3 c146_149) (c_eq0 (hR 28 x1)) (fun c => ?_) (fun c => ?_)
                      · have h := h.1 c
                        refine p_lc (ls' := []) c146_156 rfl rfl ?_
                        refine i_push (n := 0) (cct c146_156 rfl) zl_0 ?_
                        exact p_ri (cct c146_157 rfl) trivial h
                      · have h := h.2 c
                        refine i_push (n := 1) (cc3 c146_152) zl_1 ?_
                        refine p_goto (cc3 c146_153) ?_
                        refine p_lc (ls' := []) c146_157 rfl rfl ?_
                        exact p_ri (cct c146_157 rfl) trivial h
                  · have h := h.2 c
                    refine sw_c (n := 8) rr.2 zl_8 (by decide) (fun c => ?_) (fun c => ?_)
                    · have h := h.1 c
                      refine p_ald (cc3 c146_158) rfl ?_
                      refine pm_getp hΦ (cc3 c146_159) (c := 12) rfl (by decide) ?_
                      refine p_ild (cc3 c146_162) rfl ?_
                      obtain ⟨g2, h⟩ := h
                      refine n_aldi hΦ (c := 12) (n := 8) (ni := 8) (cc3 c146_163) (by decide) rfl rfl rfl (by decide) g2 (v := A 12 x1) rfl ?_
                      exact p_ri (cc3 c146_164) trivial h
                    · have h := h.2 c
                      refine sw_c (n := 9) rr.2 zl_9 (by decide) (fun c => ?_) (fun c => ?_)
                      · have h := h.1 c
                        refine p_ald (cc3 c146_165) rfl ?_
                        refine pm_getp hΦ (cc3 c146_166) (c := 13) rfl (by decide) ?_
                        refine p_ild (cc3 c146_169) rfl ?_
                        obtain ⟨g2, h⟩ := h
                        refine n_aldi hΦ (c := 13) (n := 8) (ni := 8) (cc3 c146_170) (by decide) rfl rfl rfl (by decide) g2 (v := A 13 x1) rfl ?_
                        exact p_ri (cc3 c146_171) trivial h
                      · have h := h.2 c
                        refine sw_c (n := 10) rr.2 zl_10 (by decide) (fun c => ?_) (fun c => ?_)
                        · have h := h.1 c
                          refine p_ald (cc3 c146_172) rfl ?_
                          refine pm_getp hΦ (cc3 c146_173) (c := 14) rfl (by decide) ?_
                          refine p_ild (cc3 c146_176) rfl ?_
                          obtain ⟨g2, h⟩ := h
                          refine n_aldi hΦ (c := 14) (n := 8) (ni := 8) (cc3 c146_177) (by decide) rfl rfl rfl (by decide) g2 (v := A 14 x1) rfl ?_
                          exact p_ri (cc3 c146_178) trivial h
                        · have h := h.2 c
                          refine sw_d ?_
                          refine i_push (n := (-2)) (cc3 c146_179) zl_m2 ?_
                          exact p_ri (cc3 c146_181) trivial h
theorem S146 {d : Nat} (hd : 3 ≤ d) {m : Nat} {Φ : (Nat → Nat → Int32) → xM} (hΦ : MLaw m Φ) {A : Nat → Int → Int} (hR : RG A) {x1 x2 : Int} (rr : Rg x1 ∧ Rg x2) (hp : (0 ≤ A 0 13 ∧ A 0 13 ≤ 8)) : xev xT d 146 [.ref m, .int (iz x1), .int (iz x2)] (Φ (mI A)) (some (.int (iz (m_kiltTold A x1 x2)))) (Φ (mI A)) := by
  refine xev_i (D := 2) hd (Nat.le_of_ble_eq_true rfl) (fun d hd => V146_0 hd hΦ hR rr ?_)
  repeat' (first | refine And.intro ?_ ?_ | intro _)
  all_goals (first | assumption | rfl | omega | (refine congrArg (fun z => some (Value.int (iz z))) ?_; first | omega | (unfold m_kiltTold; (repeat' split) <;> first | rfl | omega | (exfalso; omega))) | (refine congrArg (fun z => Φ (mI z)) ?_; (skip; (repeat' split) <;> first | rfl | omega | (exfalso; omega))))
theorem V159_0 {d : Nat} (hd : 3 ≤ d) {Q : Option Value → xM → Prop} {m : Nat} {Φ : (Nat → Nat → Int32) → xM} (hΦ : MLaw m Φ) {A : Nat → Int → Int} (hR : RG A) {x1 x2 : Int} (rr : Rg x1 ∧ Rg x2) (h : (0 ≤ A 0 13) ∧ ((¬ (0 ≤ x1 ∧ x1 ≤ A 0 13 - 1) → Q (some (.int (iz (-2)))) (Φ (mI A))) ∧ ((0 ≤ x1 ∧ x1 ≤ A 0 13 - 1) → ((¬ (0 ≤ x2 ∧ x2 ≤ 4) → Q (some (.int (iz (-2)))) (Φ (mI A))) ∧ ((0 ≤ x2 ∧ x2 ≤ 4) → (0 ≤ A 0 13 ∧ A 0 13 ≤ 8) ∧ ((¬ ((0 ≤ x1 ∧ x1 ≤ A 0 13 - 1) ∧ 0 ≤ A 20 x1) → Q (some (.int (iz (-3)))) (Φ (mI A))) ∧ (((0 ≤ x1 ∧ x1 ≤ A 0 13 - 1) ∧ 0 ≤ A 20 x1) → (((x2 = 0) → (0 ≤ x1 ∧ x1 < 8) ∧ Q (some (.int (iz (A 21 x1)))) (Φ (mI A))) ∧ (¬ (x2 = 0) → (((x2 = 1) → (0 ≤ x1 ∧ x1 < 8) ∧ Q (some (.int (iz (A 22 x1)))) (Φ (mI A))) ∧ (¬ (x2 = 1) → (((x2 = 2) → (0 ≤ x1 ∧ x1 < 8) ∧ (Rg ((A 22 x1) + (A 18 x1))) ∧ Q (some (.int (iz ((A 22 x1) + (A 18 x1))))) (Φ (mI A))) ∧ (¬ (x2 = 2) → (((x2 = 3) → (0 ≤ x1 ∧ x1 < 8) ∧ Q (some (.int (iz (A 23 x1)))) (Φ (mI A))) ∧ (¬ (x2 = 3) → (0 ≤ x1 ∧ x1 < 8) ∧ Q (some (.int (iz (A 24 x1)))) (Φ (mI A))))))))))))))))) : wpE (xT 159) (xev xT d) Q (0, [(0, .ref m), (1, .int (iz x1)), (2, .int (iz x2))], [], Φ (mI A)) := by
  refine p_ald (cc3 c159_0) rfl ?_
  refine p_ild (cc3 c159_1) rfl ?_
  obtain ⟨g1, h⟩ := h
  refine p_callV (cc3 c159_2) (Nat.le_of_ble_eq_true rfl) rfl rfl (Nat.le_of_ble_eq_true rfl) (ml_kd hΦ) (S147 (Nat.le_trans (by decide) hd) hΦ hR rr.1 g1) ?_
  refine i_ifB (cc3 c159_5) (fun c => ?_) (fun c => ?_)
  · have h := h.1 c
    refine p_lc (ls' := []) c159_18 rfl rfl ?_
    refine i_push (n := (-2)) (cct c159_18 rfl) zl_m2 ?_
    exact p_ri (cc3 c159_20) trivial h
  · have h := h.2 c
    refine p_ald (cc3 c159_8) rfl ?_
    refine p_ild (cc3 c159_9) rfl ?_
    refine i_push (n := 0) (cc3 c159_10) zl_0 ?_
    refine i_push (n := 4) (cc3 c159_11) zl_4 ?_
    refine p_callV (cc3 c159_12) (Nat.le_of_ble_eq_true rfl) rfl rfl (Nat.le_of_ble_eq_true rfl) (ml_kd hΦ) (S129 (Nat.le_trans (by decide) hd) hΦ hR ⟨rr.2, (by decide), (by decide)⟩) ?_
    refine i_ifB (cc3 c159_15) (fun c => ?_) (fun c => ?_)
    · have h := h.1 c
      refine p_lc (ls' := []) c159_18 rfl rfl ?_
      refine i_push (n := (-2)) (cct c159_18 rfl) zl_m2 ?_
      exact p_ri (cc3 c159_20) trivial h
    · have h := h.2 c
      refine p_ald (cc3 c159_21) rfl ?_
      refine p_ild (cc3 c159_22) rfl ?_
      obtain ⟨g2, h⟩ := h
      refine p_callV (cc3 c159_23) (Nat.le_of_ble_eq_true rfl) rfl rfl (Nat.le_of_ble_eq_true rfl) (ml_kd hΦ) (S160 (Nat.le_trans (by decide) hd) hΦ hR rr.1 g2) ?_
      refine i_ifB (cc3 c159_26) (fun c => ?_) (fun c => ?_)
      · have h := h.1 c
        refine i_push (n := (-3)) (cc3 c159_29) zl_m3 ?_
        exact p_ri (cc3 c159_31) trivial h
      · have h := h.2 c
        refine p_ild (cc3 c159_32) rfl ?_
        refine i_if (c' := x2 = 0) (cc3 c159_33) (c_eq0 rr.2) (fun c => ?_) (fun c => ?_)
        · have h := h.1 c
          refine p_ald (cc3 c159_36) rfl ?_
          refine pm_getp hΦ (cc3 c159_37) (c := 21) rfl (by decide) ?_
          refine p_ild (cc3 c159_40) rfl ?_
          obtain ⟨g3, h⟩ := h
          refine n_aldi hΦ (c := 21) (n := 8) (ni := 8) (cc3 c159_41) (by decide) rfl rfl rfl (by decide) g3 (v := A 21 x1) rfl ?_
          refine p_goto (cc3 c159_42) ?_
          refine p_lc (ls' := []) c159_100 rfl rfl ?_
          exact p_ri (cct c159_100 rfl) trivial h
        · have h := h.2 c
          refine p_ild (cc3 c159_45) rfl ?_
          refine i_push (n := 1) (cc3 c159_46) zl_1 ?_
          refine i_icmp (c' := x2 = 1) (cc3 c159_47) (iz_inj rr.2 (by decide)) (fun c => ?_) (fun c => ?_)
          · have h := h.1 c
            refine p_ald (cc3 c159_50) rfl ?_
            refine pm_getp hΦ (cc3 c159_51) (c := 22) rfl (by decide) ?_
            refine p_ild (cc3 c159_54) rfl ?_
            obtain ⟨g3, h⟩ := h
            refine n_aldi hΦ (c := 22) (n := 8) (ni := 8) (cc3 c159_55) (by decide) rfl rfl rfl (by decide) g3 (v := A 22 x1) rfl ?_
            refine p_goto (cc3 c159_56) ?_
            refine p_lc (ls' := []) c159_100 rfl rfl ?_
            exact p_ri (cct c159_100 rfl) trivial h
          · have h := h.2 c
            refine p_ild (cc3 c159_59) rfl ?_
            refine i_push (n := 2) (cc3 c159_60) zl_2 ?_
            refine i_icmp (c' := x2 = 2) (cc3 c159_61) (iz_inj rr.2 (by decide)) (fun c => ?_) (fun c => ?_)
            · have h := h.1 c
              refine p_ald (cc3 c159_64) rfl ?_
              refine pm_getp hΦ (cc3 c159_65) (c := 22) rfl (by decide) ?_
              refine p_ild (cc3 c159_68) rfl ?_
              obtain ⟨g3, h⟩ := h
              refine n_aldi hΦ (c := 22) (n := 8) (ni := 8) (cc3 c159_69) (by decide) rfl rfl rfl (by decide) g3 (v := A 22 x1) rfl ?_
              refine p_ald (cc3 c159_70) rfl ?_
              refine pm_getp hΦ (cc3 c159_71) (c := 18) rfl (by decide) ?_
              refine p_ild (cc3 c159_74) rfl ?_
              refine n_aldi hΦ (c := 18) (n := 8) (ni := 8) (cc3 c159_75) (by decide) rfl rfl rfl (by decide) g3 (v := A 18 x1) rfl ?_
              obtain ⟨g4, h⟩ := h
              refine (fun _ : Rg ((A 22 x1) + (A 18 x1)) => i_add (cc3 c159_76) ?_) g4
              refine p_goto (cc3 c159_77) ?_
              refine p_lc (ls' := []) c159_100 rfl rfl ?_
              exact p_ri (cct c159_100 rfl) trivial h
            · have h := h.2 c
              refine p_ild (cc3 c159_80) rfl ?_
              refine i_push (n := 3) (cc3 c159_81) zl_3 ?_
              refine i_icmp (c' := x2 = 3) (cc3 c159_82) (iz_inj rr.2 (by decide)) (fun c => ?_) (fun c => ?_)
              · have h := h.1 c
                refine p_ald (cc3 c159_85) rfl ?_
                refine pm_getp hΦ (cc3 c159_86) (c := 23) rfl (by decide) ?_
                refine p_ild (cc3 c159_89) rfl ?_
                obtain ⟨g3, h⟩ := h
                refine n_aldi hΦ (c := 23) (n := 8) (ni := 8) (cc3 c159_90) (by decide) rfl rfl rfl (by decide) g3 (v := A 23 x1) rfl ?_
                refine p_goto (cc3 c159_91) ?_
                refine p_lc (ls' := []) c159_100 rfl rfl ?_
                exact p_ri (cct c159_100 rfl) trivial h
              · have h := h.2 c
                refine p_ald (cc3 c159_94) rfl ?_
                refine pm_getp hΦ (cc3 c159_95) (c := 24) rfl (by decide) ?_
                refine p_ild (cc3 c159_98) rfl ?_
                obtain ⟨g3, h⟩ := h
                refine n_aldi hΦ (c := 24) (n := 8) (ni := 8) (cc3 c159_99) (by decide) rfl rfl rfl (by decide) g3 (v := A 24 x1) rfl ?_
                refine p_lc (ls' := []) c159_100 rfl rfl ?_
                exact p_ri (cct c159_100 rfl) trivial h
theorem S159 {d : Nat} (hd : 4 ≤ d) {m : Nat} {Φ : (Nat → Nat → Int32) → xM} (hΦ : MLaw m Φ) {A : Nat → Int → Int} (hR : RG A) {x1 x2 : Int} (rr : Rg x1 ∧ Rg x2) (hp : (KiltsOK A)) : xev xT d 159 [.ref m, .int (iz x1), .int (iz x2)] (Φ (mI A)) (some (.int (iz (m_laid A x1 x2)))) (Φ (mI A)) := by
  refine xev_i (D := 3) hd (Nat.le_of_ble_eq_true rfl) (fun d hd => V159_0 hd hΦ hR rr ?_)

  obtain ⟨h0, h1⟩ := hp
  refine ⟨h0.1, fun h => ⟨?_, rfl⟩, fun h => ?_⟩
  · unfold m_laid; rw [if_neg (by omega)]
  obtain ⟨k1, k2⟩ := h1 x1 (by omega) (by omega)
  have kb := k1.b
  have k3 : 0 ≤ A 20 x1 → (0 ≤ A 22 x1 ∧ A 22 x1 ≤ 9999) := fun q => (k2 q).2.2.2.1
  repeat' (first | refine And.intro ?_ ?_ | intro _)
  all_goals (first | assumption | rfl | omega | (refine congrArg (fun z => some (Value.int (iz z))) ?_; first | omega | (unfold m_laid; (repeat' split) <;> first | rfl | omega | (exfalso; omega))) | (refine congrArg (fun z => Φ (mI z)) ?_; (skip; (repeat' split) <;> first | rfl | omega | (exfalso; omega))))
theorem V161_0 {d : Nat} (hd : 3 ≤ d) {Q : Option Value → xM → Prop} {m : Nat} {Φ : (Nat → Nat → Int32) → xM} (hΦ : MLaw m Φ) {A : Nat → Int → Int} (hR : RG A) {x1 x2 x3 : Int} (rr : Rg x1 ∧ Rg x2 ∧ Rg x3) (h : (0 ≤ A 0 13) ∧ ((¬ (0 ≤ x1 ∧ x1 ≤ A 0 13 - 1) → Q (some (.int (iz (-2)))) (Φ (mI A))) ∧ ((0 ≤ x1 ∧ x1 ≤ A 0 13 - 1) → (0 ≤ x1 ∧ x1 < 8) ∧ (Rg ((A 15 x1) - 1)) ∧ ((¬ (0 ≤ x2 ∧ x2 ≤ ((A 15 x1) - 1)) → Q (some (.int (iz (-2)))) (Φ (mI A))) ∧ ((0 ≤ x2 ∧ x2 ≤ ((A 15 x1) - 1)) → ((¬ (0 ≤ x3 ∧ x3 ≤ 3) → Q (some (.int (iz (-2)))) (Φ (mI A))) ∧ ((0 ≤ x3 ∧ x3 ≤ 3) → (((x3 = 2) → (0 ≤ x2 ∧ x2 ≤ 24) ∧ (0 ≤ A 19 x1 ∧ A 19 x1 ≤ 1000) ∧ (0 < A 15 x1) ∧ Q (some (.int (iz (m_loses A x1 x2)))) (Φ (mI A))) ∧ (¬ (x3 = 2) → (0 ≤ A 0 13 ∧ A 0 13 ≤ 8) ∧ ((¬ ((0 ≤ x1 ∧ x1 ≤ A 0 13 - 1) ∧ 0 ≤ A 20 x1) → Q (some (.int (iz (-3)))) (Φ (mI A))) ∧ (((0 ≤ x1 ∧ x1 ≤ A 0 13 - 1) ∧ 0 ≤ A 20 x1) → (((x3 = 0) → (Rg (24 * x1)) ∧ (Rg ((24 * x1) + x2)) ∧ (0 ≤ ((24 * x1) + x2) ∧ ((24 * x1) + x2) < 192) ∧ Q (some (.int (iz (A 26 ((24 * x1) + x2))))) (Φ (mI A))) ∧ (¬ (x3 = 0) → (((x3 = 1) → (Rg (24 * x1)) ∧ (Rg ((24 * x1) + x2)) ∧ (0 ≤ ((24 * x1) + x2) ∧ ((24 * x1) + x2) < 192) ∧ Q (some (.int (iz (A 27 ((24 * x1) + x2))))) (Φ (mI A))) ∧ (¬ (x3 = 1) → (0 ≤ x2 ∧ x2 < 24) ∧ (A 15 x1 ≤ 24) ∧ (Rg (24 * x1)) ∧ (Rg ((24 * x1) + x2)) ∧ (0 ≤ ((24 * x1) + x2) ∧ ((24 * x1) + x2) < 192) ∧ (Rg ((m_behind A x1 x2) - (A 26 ((24 * x1) + x2)))) ∧ (Rg (((m_behind A x1 x2) - (A 26 ((24 * x1) + x2))) - (A 25 x1))) ∧ Q (some (.int (iz (((m_behind A x1 x2) - (A 26 ((24 * x1) + x2))) - (A 25 x1))))) (Φ (mI A))))))))))))))))) : wpE (xT 161) (xev xT d) Q (0, [(0, .ref m), (1, .int (iz x1)), (2, .int (iz x2)), (3, .int (iz x3))], [], Φ (mI A)) := by
  refine p_ald (cc3 c161_0) rfl ?_
  refine p_ild (cc3 c161_1) rfl ?_
  obtain ⟨g1, h⟩ := h
  refine p_callV (cc3 c161_2) (Nat.le_of_ble_eq_true rfl) rfl rfl (Nat.le_of_ble_eq_true rfl) (ml_kd hΦ) (S147 (Nat.le_trans (by decide) hd) hΦ hR rr.1 g1) ?_
  refine i_ifB (cc3 c161_5) (fun c => ?_) (fun c => ?_)
  · have h := h.1 c
    refine p_lc (ls' := []) c161_35 rfl rfl ?_
    refine i_push (n := (-2)) (cct c161_35 rfl) zl_m2 ?_
    exact p_ri (cc3 c161_37) trivial h
  · have h := h.2 c
    refine p_ald (cc3 c161_8) rfl ?_
    refine p_ild (cc3 c161_9) rfl ?_
    refine i_push (n := 0) (cc3 c161_10) zl_0 ?_
    refine p_ald (cc3 c161_11) rfl ?_
    refine pm_getp hΦ (cc3 c161_12) (c := 15) rfl (by decide) ?_
    refine p_ild (cc3 c161_15) rfl ?_
    obtain ⟨g2, h⟩ := h
    refine n_aldi hΦ (c := 15) (n := 8) (ni := 8) (cc3 c161_16) (by decide) rfl rfl rfl (by decide) g2 (v := A 15 x1) rfl ?_
    refine i_push (n := 1) (cc3 c161_17) zl_1 ?_
    obtain ⟨g3, h⟩ := h
    refine (fun _ : Rg ((A 15 x1) - 1) => i_sub (cc3 c161_18) ?_) g3
    refine p_callV (cc3 c161_19) (Nat.le_of_ble_eq_true rfl) rfl rfl (Nat.le_of_ble_eq_true rfl) (ml_kd hΦ) (S129 (Nat.le_trans (by decide) hd) hΦ hR ⟨rr.2.1, (by decide), g3⟩) ?_
    refine i_ifB (cc3 c161_22) (fun c => ?_) (fun c => ?_)
    · have h := h.1 c
      refine p_lc (ls' := []) c161_35 rfl rfl ?_
      refine i_push (n := (-2)) (cct c161_35 rfl) zl_m2 ?_
      exact p_ri (cc3 c161_37) trivial h
    · have h := h.2 c
      refine p_ald (cc3 c161_25) rfl ?_
      refine p_ild (cc3 c161_26) rfl ?_
      refine i_push (n := 0) (cc3 c161_27) zl_0 ?_
      refine i_push (n := 3) (cc3 c161_28) zl_3 ?_
      refine p_callV (cc3 c161_29) (Nat.le_of_ble_eq_true rfl) rfl rfl (Nat.le_of_ble_eq_true rfl) (ml_kd hΦ) (S129 (Nat.le_trans (by decide) hd) hΦ hR ⟨rr.2.2, (by decide), (by decide)⟩) ?_
      refine i_ifB (cc3 c161_32) (fun c => ?_) (fun c => ?_)
      · have h := h.1 c
        refine p_lc (ls' := []) c161_35 rfl rfl ?_
        refine i_push (n := (-2)) (cct c161_35 rfl) zl_m2 ?_
        exact p_ri (cc3 c161_37) trivial h
      · have h := h.2 c
        refine p_ild (cc3 c161_38) rfl ?_
        refine i_push (n := 2) (cc3 c161_39) zl_2 ?_
        refine i_icmp (c' := x3 = 2) (cc3 c161_40) (iz_inj rr.2.2 (by decide)) (fun c => ?_) (fun c => ?_)
        · have h := h.1 c
          refine p_ald (cc3 c161_43) rfl ?_
          refine p_ild (cc3 c161_44) rfl ?_
          refine p_ild (cc3 c161_45) rfl ?_
          obtain ⟨g4, h⟩ := h
          obtain ⟨g5, h⟩ := h
          obtain ⟨g6, h⟩ := h
          refine p_callV (cc3 c161_46) (Nat.le_of_ble_eq_true rfl) rfl rfl (Nat.le_of_ble_eq_true rfl) (ml_kd hΦ) (S162 (Nat.le_trans (by decide) hd) hΦ hR ⟨rr.1, rr.2.1⟩ ⟨g2, g4, g5, g6⟩) ?_
          exact p_ri (cc3 c161_49) trivial h
        · have h := h.2 c
          refine p_ald (cc3 c161_50) rfl ?_
          refine p_ild (cc3 c161_51) rfl ?_
          obtain ⟨g4, h⟩ := h
          refine p_callV (cc3 c161_52) (Nat.le_of_ble_eq_true rfl) rfl rfl (Nat.le_of_ble_eq_true rfl) (ml_kd hΦ) (S160 (Nat.le_trans (by decide) hd) hΦ hR rr.1 g4) ?_
          refine i_ifB (cc3 c161_55) (fun c => ?_) (fun c => ?_)
          · have h := h.1 c
            refine i_push (n := (-3)) (cc3 c161_58) zl_m3 ?_
            exact p_ri (cc3 c161_60) trivial h
          · have h := h.2 c
            refine p_ild (cc3 c161_61) rfl ?_
            refine i_if (c' := x3 = 0) (cc3 c161_62) (c_eq0 rr.2.2) (fun c => ?_) (fun c => ?_)
            · have h := h.1 c
              refine p_ald (cc3 c161_65) rfl ?_
              refine pm_getp hΦ (cc3 c161_66) (c := 26) rfl (by decide) ?_
              refine i_push (n := 24) (cc3 c161_69) zl_24 ?_
              refine p_ild (cc3 c161_71) rfl ?_
              obtain ⟨g5, h⟩ := h
              refine (fun _ : Rg (24 * x1) => i_mul (cc3 c161_72) ?_) g5
              refine p_ild (cc3 c161_73) rfl ?_
              obtain ⟨g6, h⟩ := h
              refine (fun _ : Rg ((24 * x1) + x2) => i_add (cc3 c161_74) ?_) g6
              obtain ⟨g7, h⟩ := h
              refine n_aldi hΦ (c := 26) (n := 192) (ni := 192) (cc3 c161_75) (by decide) rfl rfl rfl (by decide) g7 (v := A 26 ((24 * x1) + x2)) rfl ?_
              refine p_goto (cc3 c161_76) ?_
              refine p_lc (ls' := []) c161_123 rfl rfl ?_
              exact p_ri (cct c161_123 rfl) trivial h
            · have h := h.2 c
              refine p_ild (cc3 c161_79) rfl ?_
              refine i_push (n := 1) (cc3 c161_80) zl_1 ?_
              refine i_icmp (c' := x3 = 1) (cc3 c161_81) (iz_inj rr.2.2 (by decide)) (fun c => ?_) (fun c => ?_)
              · have h := h.1 c
                refine p_ald (cc3 c161_84) rfl ?_
                refine pm_getp hΦ (cc3 c161_85) (c := 27) rfl (by decide) ?_
                refine i_push (n := 24) (cc3 c161_88) zl_24 ?_
                refine p_ild (cc3 c161_90) rfl ?_
                obtain ⟨g5, h⟩ := h
                refine (fun _ : Rg (24 * x1) => i_mul (cc3 c161_91) ?_) g5
                refine p_ild (cc3 c161_92) rfl ?_
                obtain ⟨g6, h⟩ := h
                refine (fun _ : Rg ((24 * x1) + x2) => i_add (cc3 c161_93) ?_) g6
                obtain ⟨g7, h⟩ := h
                refine n_aldi hΦ (c := 27) (n := 192) (ni := 192) (cc3 c161_94) (by decide) rfl rfl rfl (by decide) g7 (v := A 27 ((24 * x1) + x2)) rfl ?_
                refine p_goto (cc3 c161_95) ?_
                refine p_lc (ls' := []) c161_123 rfl rfl ?_
                exact p_ri (cct c161_123 rfl) trivial h
              · have h := h.2 c
                refine p_ald (cc3 c161_98) rfl ?_
                refine p_ild (cc3 c161_99) rfl ?_
                refine p_ild (cc3 c161_100) rfl ?_
                obtain ⟨g5, h⟩ := h
                obtain ⟨g6, h⟩ := h
                refine p_callV (cc3 c161_101) (Nat.le_of_ble_eq_true rfl) rfl rfl (Nat.le_of_ble_eq_true rfl) (ml_kd hΦ) (S163 (Nat.le_trans (by decide) hd) hΦ hR ⟨rr.1, rr.2.1⟩ ⟨g2, g5, g6⟩) ?_
                refine p_ald (cc3 c161_104) rfl ?_
                refine pm_getp hΦ (cc3 c161_105) (c := 26) rfl (by decide) ?_
                refine i_push (n := 24) (cc3 c161_108) zl_24 ?_
                refine p_ild (cc3 c161_110) rfl ?_
                obtain ⟨g7, h⟩ := h
                refine (fun _ : Rg (24 * x1) => i_mul (cc3 c161_111) ?_) g7
                refine p_ild (cc3 c161_112) rfl ?_
                obtain ⟨g8, h⟩ := h
                refine (fun _ : Rg ((24 * x1) + x2) => i_add (cc3 c161_113) ?_) g8
                obtain ⟨g9, h⟩ := h
                refine n_aldi hΦ (c := 26) (n := 192) (ni := 192) (cc3 c161_114) (by decide) rfl rfl rfl (by decide) g9 (v := A 26 ((24 * x1) + x2)) rfl ?_
                obtain ⟨g10, h⟩ := h
                refine (fun _ : Rg ((m_behind A x1 x2) - (A 26 ((24 * x1) + x2))) => i_sub (cc3 c161_115) ?_) g10
                refine p_ald (cc3 c161_116) rfl ?_
                refine pm_getp hΦ (cc3 c161_117) (c := 25) rfl (by decide) ?_
                refine p_ild (cc3 c161_120) rfl ?_
                refine n_aldi hΦ (c := 25) (n := 8) (ni := 8) (cc3 c161_121) (by decide) rfl rfl rfl (by decide) g2 (v := A 25 x1) rfl ?_
                obtain ⟨g11, h⟩ := h
                refine (fun _ : Rg (((m_behind A x1 x2) - (A 26 ((24 * x1) + x2))) - (A 25 x1)) => i_sub (cc3 c161_122) ?_) g11
                refine p_lc (ls' := []) c161_123 rfl rfl ?_
                exact p_ri (cct c161_123 rfl) trivial h
theorem S161 {d : Nat} (hd : 4 ≤ d) {m : Nat} {Φ : (Nat → Nat → Int32) → xM} (hΦ : MLaw m Φ) {A : Nat → Int → Int} (hR : RG A) {x1 x2 x3 : Int} (rr : Rg x1 ∧ Rg x2 ∧ Rg x3) (hp : (KiltsOK A)) : xev xT d 161 [.ref m, .int (iz x1), .int (iz x2), .int (iz x3)] (Φ (mI A)) (some (.int (iz (m_pleat A x1 x2 x3)))) (Φ (mI A)) := by
  refine xev_i (D := 3) hd (Nat.le_of_ble_eq_true rfl) (fun d hd => V161_0 hd hΦ hR rr ?_)

  obtain ⟨h0, h1⟩ := hp
  refine ⟨h0.1, fun h => ⟨?_, rfl⟩, fun h => ?_⟩
  · unfold m_pleat; rw [if_neg (by omega)]
  obtain ⟨k1, k2⟩ := h1 x1 (by omega) (by omega)
  have kb := k1.b
  have kn : 4 ≤ A 15 x1 ∧ A 15 x1 ≤ 24 := k1.2.2.2.2.1
  refine ⟨by omega, by omega, fun h2 => ⟨?_, rfl⟩, fun h2 => ?_⟩
  · unfold m_pleat; rw [if_neg (by omega)]
  have k3 : 0 ≤ A 20 x1 → (1 ≤ A 25 x1 ∧ A 25 x1 ≤ 2000) ∧ (0 ≤ A 26 (24 * x1 + x2) ∧ A 26 (24 * x1 + x2) ≤ 9999) ∧ (0 ≤ m_behind A x1 x2 ∧ m_behind A x1 x2 ≤ 9999) := fun q => by
    obtain ⟨a1, a2, a3, a4, a5, a6, a7, a8⟩ := k2 q
    refine ⟨a2, (a8 x2 (by omega) (by omega)).1, ?_⟩
    unfold m_behind
    split
    · have := (a8 (x2 + 1) (by omega) (by omega)).1
      rw [← Int.add_assoc] at this
      exact this
    · exact a4
  repeat' (first | refine And.intro ?_ ?_ | intro _)
  all_goals (first | assumption | rfl | omega | (refine congrArg (fun z => some (Value.int (iz z))) ?_; first | omega | (unfold m_pleat; (repeat' split) <;> first | rfl | omega | (exfalso; omega))) | (refine congrArg (fun z => Φ (mI z)) ?_; (skip; (repeat' split) <;> first | rfl | omega | (exfalso; omega))))
theorem V166_0 {d : Nat} (hd : 3 ≤ d) {Q : Option Value → xM → Prop} {m : Nat} {Φ : (Nat → Nat → Int32) → xM} (hΦ : MLaw m Φ) {A : Nat → Int → Int} (hR : RG A) {x1 x2 : Int} (rr : Rg x1 ∧ Rg x2) (h : (0 ≤ A 0 13) ∧ ((¬ (0 ≤ x1 ∧ x1 ≤ A 0 13 - 1) → Q (some (.int (iz (-2)))) (Φ (mI A))) ∧ ((0 ≤ x1 ∧ x1 ≤ A 0 13 - 1) → (0 ≤ A 0 13 ∧ A 0 13 ≤ 8) ∧ ((¬ ((0 ≤ x1 ∧ x1 ≤ A 0 13 - 1) ∧ 0 ≤ A 20 x1) → Q (some (.int (iz (-3)))) (Φ (mI A))) ∧ (((0 ≤ x1 ∧ x1 ≤ A 0 13 - 1) ∧ 0 ≤ A 20 x1) → (0 ≤ x1 ∧ x1 < 8) ∧ (0 ≤ A 15 x1 ∧ A 15 x1 ≤ 24) ∧ (0 ≤ A 25 x1 ∧ A 25 x1 ≤ 10000) ∧ (0 ≤ A 19 x1 ∧ A 19 x1 ≤ 1000) ∧ Q (some (.int (iz (A 15 x1 * A 25 x1 - (if x2 = 0 then 0 else A 19 x1))))) (Φ (mI A))))))) : wpE (xT 166) (xev xT d) Q (0, [(0, .ref m), (1, .int (iz x1)), (2, .int (iz x2))], [], Φ (mI A)) := by
  refine p_ald (cc3 c166_0) rfl ?_
  refine p_ild (cc3 c166_1) rfl ?_
  obtain ⟨g1, h⟩ := h
  refine p_callV (cc3 c166_2) (Nat.le_of_ble_eq_true rfl) rfl rfl (Nat.le_of_ble_eq_true rfl) (ml_kd hΦ) (S147 (Nat.le_trans (by decide) hd) hΦ hR rr.1 g1) ?_
  refine i_ifB (cc3 c166_5) (fun c => ?_) (fun c => ?_)
  · have h := h.1 c
    refine i_push (n := (-2)) (cc3 c166_8) zl_m2 ?_
    exact p_ri (cc3 c166_10) trivial h
  · have h := h.2 c
    refine p_ald (cc3 c166_11) rfl ?_
    refine p_ild (cc3 c166_12) rfl ?_
    obtain ⟨g2, h⟩ := h
    refine p_callV (cc3 c166_13) (Nat.le_of_ble_eq_true rfl) rfl rfl (Nat.le_of_ble_eq_true rfl) (ml_kd hΦ) (S160 (Nat.le_trans (by decide) hd) hΦ hR rr.1 g2) ?_
    refine i_ifB (cc3 c166_16) (fun c => ?_) (fun c => ?_)
    · have h := h.1 c
      refine i_push (n := (-3)) (cc3 c166_28) zl_m3 ?_
      refine p_lc (ls' := []) c166_30 rfl rfl ?_
      exact p_ri (cct c166_30 rfl) trivial h
    · have h := h.2 c
      refine p_ald (cc3 c166_19) rfl ?_
      refine p_ild (cc3 c166_20) rfl ?_
      refine p_ild (cc3 c166_21) rfl ?_
      obtain ⟨g3, h⟩ := h
      obtain ⟨g4, h⟩ := h
      obtain ⟨g5, h⟩ := h
      obtain ⟨g6, h⟩ := h
      refine p_callV (cc3 c166_22) (Nat.le_of_ble_eq_true rfl) rfl rfl (Nat.le_of_ble_eq_true rfl) (ml_kd hΦ) (S165 (Nat.le_trans (by decide) hd) hΦ hR ⟨rr.1, rr.2⟩ ⟨g3, g4, g5, g6⟩) ?_
      refine p_goto (cc3 c166_25) ?_
      refine p_lc (ls' := []) c166_30 rfl rfl ?_
      exact p_ri (cct c166_30 rfl) trivial h
theorem S166 {d : Nat} (hd : 4 ≤ d) {m : Nat} {Φ : (Nat → Nat → Int32) → xM} (hΦ : MLaw m Φ) {A : Nat → Int → Int} (hR : RG A) {x1 x2 : Int} (rr : Rg x1 ∧ Rg x2) (hp : (KiltsOK A)) : xev xT d 166 [.ref m, .int (iz x1), .int (iz x2)] (Φ (mI A)) (some (.int (iz (m_around A x1 x2)))) (Φ (mI A)) := by
  refine xev_i (D := 3) hd (Nat.le_of_ble_eq_true rfl) (fun d hd => V166_0 hd hΦ hR rr ?_)

  obtain ⟨h0, h1⟩ := hp
  refine ⟨h0.1, fun h => ⟨?_, rfl⟩, fun h => ?_⟩
  · unfold m_around; rw [if_neg (by omega)]
  obtain ⟨k1, k2⟩ := h1 x1 (by omega) (by omega)
  have kb := k1.b
  have kn : 4 ≤ A 15 x1 ∧ A 15 x1 ≤ 24 := k1.2.2.2.2.1
  have k3 : 0 ≤ A 20 x1 → (1 ≤ A 25 x1 ∧ A 25 x1 ≤ 2000) := fun q => (k2 q).2.1
  repeat' (first | refine And.intro ?_ ?_ | intro _)
  all_goals (first | assumption | rfl | omega | (refine congrArg (fun z => some (Value.int (iz z))) ?_; unfold m_around m_aro; (repeat' split) <;> first | rfl | omega))
theorem V186_0 {d : Nat} (hd : 1 ≤ d) {Q : Option Value → xM → Prop} {m : Nat} {Φ : (Nat → Nat → Int32) → xM} (hΦ : MLaw m Φ) {A : Nat → Int → Int} (hR : RG A) {x1 : Int} (rr : Rg x1) (h : (Rg ((A 0 42) - 1)) ∧ ((¬ (0 ≤ x1 ∧ x1 ≤ ((A 0 42) - 1)) → Q (some (.int (iz (-2)))) (Φ (mI A))) ∧ ((0 ≤ x1 ∧ x1 ≤ ((A 0 42) - 1)) → Q (some (.int (iz (A 0 43)))) (Φ (mI (UA A 0 43 x1)))))) : wpE (xT 186) (xev xT d) Q (0, [(0, .ref m), (1, .int (iz x1))], [], Φ (mI A)) := by
  refine p_ald (cc3 c186_0) rfl ?_
  refine p_ild (cc3 c186_1) rfl ?_
  refine i_push (n := 0) (cc3 c186_2) zl_0 ?_
  refine p_ald (cc3 c186_3) rfl ?_
  refine n_geti hΦ (v := A 0 42) (cc3 c186_4) (ji := 42) rfl rfl ?_
  refine i_push (n := 1) (cc3 c186_7) zl_1 ?_
  obtain ⟨g1, h⟩ := h
  refine (fun _ : Rg ((A 0 42) - 1) => i_sub (cc3 c186_8) ?_) g1
  refine p_callV (cc3 c186_9) (Nat.le_of_ble_eq_true rfl) rfl rfl (Nat.le_of_ble_eq_true rfl) (ml_kd hΦ) (S129 (Nat.le_trans (by decide) hd) hΦ hR ⟨rr, (by decide), g1⟩) ?_
  refine i_ifB (cc3 c186_12) (fun c => ?_) (fun c => ?_)
  · have h := h.1 c
    refine i_push (n := (-2)) (cc3 c186_15) zl_m2 ?_
    exact p_ri (cc3 c186_17) trivial h
  · have h := h.2 c
    refine p_ald (cc3 c186_18) rfl ?_
    refine n_geti hΦ (v := A 0 43) (cc3 c186_19) (ji := 43) rfl rfl ?_
    refine p_ist (ls' := [(2, .int (iz (A 0 43))), (0, .ref m), (1, .int (iz x1))]) (cc3 c186_22) (by decide) rfl ?_
    refine p_ald (cc3 c186_23) rfl ?_
    refine p_ild (cc3 c186_24) rfl ?_
    refine (fun _ : Rg x1 => n_puti hΦ (cc3 c186_25) (ji := 43) rfl ?_) rr
    refine p_ild (cc3 c186_28) rfl ?_
    exact p_ri (cc3 c186_29) trivial h
theorem S186 {d : Nat} (hd : 2 ≤ d) {m : Nat} {Φ : (Nat → Nat → Int32) → xM} (hΦ : MLaw m Φ) {A : Nat → Int → Int} (hR : RG A) {x1 : Int} (rr : Rg x1) (hp : (1 ≤ A 0 42 ∧ A 0 42 ≤ 6)) : xev xT d 186 [.ref m, .int (iz x1)] (Φ (mI A)) (some (.int (iz (m_force_r A x1)))) (Φ (mI (m_force_n A x1))) := by
  refine xev_i (D := 1) hd (Nat.le_of_ble_eq_true rfl) (fun d hd => V186_0 hd hΦ hR rr ?_)
  repeat' (first | refine And.intro ?_ ?_ | intro _)
  all_goals (first | assumption | rfl | omega | (refine congrArg (fun z => some (Value.int (iz z))) ?_; first | omega | (unfold m_force_r; (repeat' split) <;> first | rfl | omega | (exfalso; omega))) | (refine congrArg (fun z => Φ (mI z)) ?_; (unfold m_force_n; (repeat' split) <;> first | rfl | omega | (exfalso; omega))))
theorem V169_0 {d : Nat} (hd : 3 ≤ d) {Q : Option Value → xM → Prop} {m : Nat} {Φ : (Nat → Nat → Int32) → xM} (hΦ : MLaw m Φ) {A : Nat → Int → Int} (hR : RG A) {x1 : Int} (rr : Rg x1) (h : (0 ≤ A 0 13) ∧ ((¬ (0 ≤ x1 ∧ x1 ≤ A 0 13 - 1) → Q (some (.int (iz (-2)))) (Φ (mI A))) ∧ ((0 ≤ x1 ∧ x1 ≤ A 0 13 - 1) → (0 ≤ A 0 13 ∧ A 0 13 ≤ 8) ∧ ((¬ ((0 ≤ x1 ∧ x1 ≤ A 0 13 - 1) ∧ 0 ≤ A 20 x1) → Q (some (.int (iz (-3)))) (Φ (mI A))) ∧ (((0 ≤ x1 ∧ x1 ≤ A 0 13 - 1) ∧ 0 ≤ A 20 x1) → (0 ≤ x1 ∧ x1 < 8) ∧ ((((A 28 x1) = 0) → Q (some (.int (iz 1))) (Φ (mI (UA A 28 x1 1)))) ∧ (¬ ((A 28 x1) = 0) → Q (some (.int (iz 0))) (Φ (mI (UA A 28 x1 0)))))))))) : wpE (xT 169) (xev xT d) Q (0, [(0, .ref m), (1, .int (iz x1))], [], Φ (mI A)) := by
  refine p_ald (cc3 c169_0) rfl ?_
  refine p_ild (cc3 c169_1) rfl ?_
  obtain ⟨g1, h⟩ := h
  refine p_callV (cc3 c169_2) (Nat.le_of_ble_eq_true rfl) rfl rfl (Nat.le_of_ble_eq_true rfl) (ml_kd hΦ) (S147 (Nat.le_trans (by decide) hd) hΦ hR rr g1) ?_
  refine i_ifB (cc3 c169_5) (fun c => ?_) (fun c => ?_)
  · have h := h.1 c
    refine i_push (n := (-2)) (cc3 c169_8) zl_m2 ?_
    exact p_ri (cc3 c169_10) trivial h
  · have h := h.2 c
    refine p_ald (cc3 c169_11) rfl ?_
    refine p_ild (cc3 c169_12) rfl ?_
    obtain ⟨g2, h⟩ := h
    refine p_callV (cc3 c169_13) (Nat.le_of_ble_eq_true rfl) rfl rfl (Nat.le_of_ble_eq_true rfl) (ml_kd hΦ) (S160 (Nat.le_trans (by decide) hd) hΦ hR rr g2) ?_
    refine i_ifB (cc3 c169_16) (fun c => ?_) (fun c => ?_)
    · have h := h.1 c
      refine i_push (n := (-3)) (cc3 c169_19) zl_m3 ?_
      exact p_ri (cc3 c169_21) trivial h
    · have h := h.2 c
      refine p_ald (cc3 c169_22) rfl ?_
      refine pm_getp hΦ (cc3 c169_23) (c := 28) rfl (by decide) ?_
      refine p_ild (cc3 c169_26) rfl ?_
      refine p_ald (cc3 c169_27) rfl ?_
      refine pm_getp hΦ (cc3 c169_28) (c := 28) rfl (by decide) ?_
      refine p_ild (cc3 c169_31) rfl ?_
      obtain ⟨g3, h⟩ := h
      refine n_aldi hΦ (c := 28) (n := 8) (ni := 8) (cc3 c169_32) (by decide) rfl rfl rfl (by decide) g3 (v := A 28 x1) rfl ?_
      refine i_if (c' := (A 28 x1) = 0) (cc3 c169_33) (c_eq0 (hR 28 x1)) (fun c => ?_) (fun c => ?_)
      · have h := h.1 c
        refine i_push (n := 1) (cc3 c169_36) zl_1 ?_
        refine p_goto (cc3 c169_37) ?_
        refine id (α := Rg 1 → _) (fun _ => ?_) (by decide); refine n_asti hΦ (c := 28) (n := 8) (ni := 8) (hv := (vnarB (by decide))) (cct c169_41 rfl) (by decide) rfl rfl rfl (by decide) g3 ?_
        refine p_ald (cc3 c169_42) rfl ?_
        refine pm_getp hΦ (cc3 c169_43) (c := 28) rfl (by decide) ?_
        refine p_ild (cc3 c169_46) rfl ?_
        refine n_aldi hΦ (c := 28) (n := 8) (ni := 8) (cc3 c169_47) (by decide) rfl rfl rfl (by decide) g3 (v := 1) (by first | rfl | exact UA_eq | simp [UA]) ?_
        refine i_if (c' := (1 : Int) = 0) (cc3 c169_48) (c_eq0 (by decide)) (fun c => ?_) (fun c => ?_)
        · exact absurd c (by decide)
        · skip
          refine i_push (n := 1) (cc3 c169_51) zl_1 ?_
          refine p_goto (cc3 c169_52) ?_
          refine p_lc (ls' := []) c169_56 rfl rfl ?_
          exact p_ri (cct c169_56 rfl) trivial h
      · have h := h.2 c
        refine i_push (n := 0) (cc3 c169_40) zl_0 ?_
        refine id (α := Rg 0 → _) (fun _ => ?_) (by decide); refine n_asti hΦ (c := 28) (n := 8) (ni := 8) (hv := (vnarB (by decide))) (cct c169_41 rfl) (by decide) rfl rfl rfl (by decide) g3 ?_
        refine p_ald (cc3 c169_42) rfl ?_
        refine pm_getp hΦ (cc3 c169_43) (c := 28) rfl (by decide) ?_
        refine p_ild (cc3 c169_46) rfl ?_
        refine n_aldi hΦ (c := 28) (n := 8) (ni := 8) (cc3 c169_47) (by decide) rfl rfl rfl (by decide) g3 (v := 0) (by first | rfl | exact UA_eq | simp [UA]) ?_
        refine i_if (c' := (0 : Int) = 0) (cc3 c169_48) (c_eq0 (by decide)) (fun c => ?_) (fun c => ?_)
        · skip
          refine i_push (n := 0) (cc3 c169_55) zl_0 ?_
          refine p_lc (ls' := []) c169_56 rfl rfl ?_
          exact p_ri (cct c169_56 rfl) trivial h
        · exact absurd (by decide) c
theorem S169 {d : Nat} (hd : 4 ≤ d) {m : Nat} {Φ : (Nat → Nat → Int32) → xM} (hΦ : MLaw m Φ) {A : Nat → Int → Int} (hR : RG A) {x1 : Int} (rr : Rg x1) (hp : (0 ≤ A 0 13 ∧ A 0 13 ≤ 8)) : xev xT d 169 [.ref m, .int (iz x1)] (Φ (mI A)) (some (.int (iz (m_turn_r A x1)))) (Φ (mI (m_turn_n A x1))) := by
  refine xev_i (D := 3) hd (Nat.le_of_ble_eq_true rfl) (fun d hd => V169_0 hd hΦ hR rr ?_)
  repeat' (first | refine And.intro ?_ ?_ | intro _)
  all_goals (first | assumption | rfl | omega | (refine congrArg (fun z => some (Value.int (iz z))) ?_; first | omega | (unfold m_turn_r; (repeat' split) <;> first | rfl | omega | (exfalso; omega))) | (refine congrArg (fun z => Φ (mI z)) ?_; (unfold m_turn_n; (repeat' split) <;> first | rfl | omega | (exfalso; omega))))
theorem V194_0 {d : Nat} (hd : 1 ≤ d) {Q : Option Value → xM → Prop} {m : Nat} {Φ : (Nat → Nat → Int32) → xM} (hΦ : MLaw m Φ) {A : Nat → Int → Int} (hR : RG A) {x1 : Int} (rr : Rg x1) (h : ((¬ (0 ≤ x1 ∧ x1 ≤ 7) → Q (some (.int (iz (-1)))) (Φ (mI A))) ∧ ((0 ≤ x1 ∧ x1 ≤ 7) → (0 ≤ x1 ∧ x1 < 8) ∧ Q (some (.int (iz (A 41 x1)))) (Φ (mI A))))) : wpE (xT 194) (xev xT d) Q (0, [(0, .ref m), (1, .int (iz x1))], [], Φ (mI A)) := by
  refine p_ald (cc3 c194_0) rfl ?_
  refine p_ild (cc3 c194_1) rfl ?_
  refine i_push (n := 0) (cc3 c194_2) zl_0 ?_
  refine i_push (n := 7) (cc3 c194_3) zl_7 ?_
  refine p_callV (cc3 c194_5) (Nat.le_of_ble_eq_true rfl) rfl rfl (Nat.le_of_ble_eq_true rfl) (ml_kd hΦ) (S129 (Nat.le_trans (by decide) hd) hΦ hR ⟨rr, (by decide), (by decide)⟩) ?_
  refine i_ifB (cc3 c194_8) (fun c => ?_) (fun c => ?_)
  · have h := h.1 c
    refine i_push (n := (-1)) (cc3 c194_20) zl_m1 ?_
    refine p_lc (ls' := []) c194_21 rfl rfl ?_
    exact p_ri (cct c194_21 rfl) trivial h
  · have h := h.2 c
    refine p_ald (cc3 c194_11) rfl ?_
    refine pm_getp hΦ (cc3 c194_12) (c := 41) rfl (by decide) ?_
    refine p_ild (cc3 c194_15) rfl ?_
    obtain ⟨g1, h⟩ := h
    refine n_aldi hΦ (c := 41) (n := 8) (ni := 8) (cc3 c194_16) (by decide) rfl rfl rfl (by decide) g1 (v := A 41 x1) rfl ?_
    refine p_goto (cc3 c194_17) ?_
    refine p_lc (ls' := []) c194_21 rfl rfl ?_
    exact p_ri (cct c194_21 rfl) trivial h
theorem S194 {d : Nat} (hd : 2 ≤ d) {m : Nat} {Φ : (Nat → Nat → Int32) → xM} (hΦ : MLaw m Φ) {A : Nat → Int → Int} (hR : RG A) {x1 : Int} (rr : Rg x1) : xev xT d 194 [.ref m, .int (iz x1)] (Φ (mI A)) (some (.int (iz (if 0 ≤ x1 ∧ x1 ≤ 7 then A 41 x1 else -1)))) (Φ (mI A)) := by
  refine xev_i (D := 1) hd (Nat.le_of_ble_eq_true rfl) (fun d hd => V194_0 hd hΦ hR rr ?_)
  repeat' (first | refine And.intro ?_ ?_ | intro _)
  all_goals (first | assumption | rfl | omega | (refine congrArg (fun z => some (Value.int (iz z))) ?_; first | omega | (skip; (repeat' split) <;> first | rfl | omega | (exfalso; omega))) | (refine congrArg (fun z => Φ (mI z)) ?_; (skip; (repeat' split) <;> first | rfl | omega | (exfalso; omega))))
