/-! THE MODEL'S METHODS, told in integers -/
theorem xev_g {d i : Nat} {as : List Value} {σ : xM} {Q : Option Value → xM → Prop} {D : Nat} {G : Prop} (hd : D + 1 ≤ d) (hc : csum as ≤ mL i) (hG : ∀ r σ', xev xT d i as σ r σ' → Q r σ' → G) (h : ∀ d', D ≤ d' → wpE (xT i) (xev xT d') Q (0, lv_args 0 as, [], σ)) : G := by
  obtain ⟨r, σ', h1, h2⟩ := xev_x hd hc h
  exact hG r σ' h1 h2
theorem zl_m300 : ((-300) : Int32) = iz (-300) := by decide
theorem zl_m204 : ((-204) : Int32) = iz (-204) := by decide
theorem zl_m100 : ((-100) : Int32) = iz (-100) := by decide
theorem zl_m20 : ((-20) : Int32) = iz (-20) := by decide
theorem zl_m14 : ((-14) : Int32) = iz (-14) := by decide
theorem zl_m13 : ((-13) : Int32) = iz (-13) := by decide
theorem zl_m12 : ((-12) : Int32) = iz (-12) := by decide
theorem zl_m11 : ((-11) : Int32) = iz (-11) := by decide
theorem zl_m10 : ((-10) : Int32) = iz (-10) := by decide
theorem zl_m9 : ((-9) : Int32) = iz (-9) := by decide
theorem zl_m8 : ((-8) : Int32) = iz (-8) := by decide
theorem zl_m7 : ((-7) : Int32) = iz (-7) := by decide
theorem zl_m6 : ((-6) : Int32) = iz (-6) := by decide
theorem zl_m5 : ((-5) : Int32) = iz (-5) := by decide
theorem zl_m4 : ((-4) : Int32) = iz (-4) := by decide
theorem zl_m3 : ((-3) : Int32) = iz (-3) := by decide
theorem zl_m2 : ((-2) : Int32) = iz (-2) := by decide
theorem zl_m1 : ((-1) : Int32) = iz (-1) := by decide
theorem zl_0 : (0 : Int32) = iz 0 := by decide
theorem zl_1 : (1 : Int32) = iz 1 := by decide
theorem zl_2 : (2 : Int32) = iz 2 := by decide
theorem zl_3 : (3 : Int32) = iz 3 := by decide
theorem zl_4 : (4 : Int32) = iz 4 := by decide
theorem zl_5 : (5 : Int32) = iz 5 := by decide
theorem zl_6 : (6 : Int32) = iz 6 := by decide
theorem zl_7 : (7 : Int32) = iz 7 := by decide
theorem zl_8 : (8 : Int32) = iz 8 := by decide
theorem zl_9 : (9 : Int32) = iz 9 := by decide
theorem zl_10 : (10 : Int32) = iz 10 := by decide
theorem zl_11 : (11 : Int32) = iz 11 := by decide
theorem zl_12 : (12 : Int32) = iz 12 := by decide
theorem zl_16 : (16 : Int32) = iz 16 := by decide
theorem zl_20 : (20 : Int32) = iz 20 := by decide
theorem zl_24 : (24 : Int32) = iz 24 := by decide
theorem zl_32 : (32 : Int32) = iz 32 := by decide
theorem zl_40 : (40 : Int32) = iz 40 := by decide
theorem zl_41 : (41 : Int32) = iz 41 := by decide
theorem zl_42 : (42 : Int32) = iz 42 := by decide
theorem zl_43 : (43 : Int32) = iz 43 := by decide
theorem zl_44 : (44 : Int32) = iz 44 := by decide
theorem zl_45 : (45 : Int32) = iz 45 := by decide
theorem zl_46 : (46 : Int32) = iz 46 := by decide
theorem zl_47 : (47 : Int32) = iz 47 := by decide
theorem zl_48 : (48 : Int32) = iz 48 := by decide
theorem zl_49 : (49 : Int32) = iz 49 := by decide
theorem zl_50 : (50 : Int32) = iz 50 := by decide
theorem zl_51 : (51 : Int32) = iz 51 := by decide
theorem zl_52 : (52 : Int32) = iz 52 := by decide
theorem zl_53 : (53 : Int32) = iz 53 := by decide
theorem zl_54 : (54 : Int32) = iz 54 := by decide
theorem zl_55 : (55 : Int32) = iz 55 := by decide
theorem zl_56 : (56 : Int32) = iz 56 := by decide
theorem zl_57 : (57 : Int32) = iz 57 := by decide
theorem zl_58 : (58 : Int32) = iz 58 := by decide
theorem zl_59 : (59 : Int32) = iz 59 := by decide
theorem zl_60 : (60 : Int32) = iz 60 := by decide
theorem zl_61 : (61 : Int32) = iz 61 := by decide
theorem zl_63 : (63 : Int32) = iz 63 := by decide
theorem zl_96 : (96 : Int32) = iz 96 := by decide
theorem zl_97 : (97 : Int32) = iz 97 := by decide
theorem zl_100 : (100 : Int32) = iz 100 := by decide
theorem zl_104 : (104 : Int32) = iz 104 := by decide
theorem zl_122 : (122 : Int32) = iz 122 := by decide
theorem zl_160 : (160 : Int32) = iz 160 := by decide
theorem zl_161 : (161 : Int32) = iz 161 := by decide
theorem zl_162 : (162 : Int32) = iz 162 := by decide
theorem zl_192 : (192 : Int32) = iz 192 := by decide
theorem zl_200 : (200 : Int32) = iz 200 := by decide
theorem zl_201 : (201 : Int32) = iz 201 := by decide
theorem zl_202 : (202 : Int32) = iz 202 := by decide
theorem zl_203 : (203 : Int32) = iz 203 := by decide
theorem zl_204 : (204 : Int32) = iz 204 := by decide
theorem zl_205 : (205 : Int32) = iz 205 := by decide
theorem zl_211 : (211 : Int32) = iz 211 := by decide
theorem zl_255 : (255 : Int32) = iz 255 := by decide
theorem zl_400 : (400 : Int32) = iz 400 := by decide
theorem zl_401 : (401 : Int32) = iz 401 := by decide
theorem zl_402 : (402 : Int32) = iz 402 := by decide
theorem zl_999 : (999 : Int32) = iz 999 := by decide
theorem zl_1920 : (1920 : Int32) = iz 1920 := by decide
theorem zl_4800 : (4800 : Int32) = iz 4800 := by decide
theorem zl_5064 : (5064 : Int32) = iz 5064 := by decide
theorem zl_9999 : (9999 : Int32) = iz 9999 := by decide
theorem zl_10000 : (10000 : Int32) = iz 10000 := by decide
theorem zl_10001 : (10001 : Int32) = iz 10001 := by decide
theorem zl_10002 : (10002 : Int32) = iz 10002 := by decide
theorem zl_10003 : (10003 : Int32) = iz 10003 := by decide
theorem zl_99999 : (99999 : Int32) = iz 99999 := by decide
theorem zl_1000000 : (1000000 : Int32) = iz 1000000 := by decide
theorem zl_252645135 : (252645135 : Int32) = iz 252645135 := by decide
theorem zl_858993459 : (858993459 : Int32) = iz 858993459 := by decide
theorem zl_1431655765 : (1431655765 : Int32) = iz 1431655765 := by decide
theorem V129_0 {d : Nat} (hd : 0 ≤ d) {Q : Option Value → xM → Prop} {m : Nat} {Φ : (Nat → Nat → Int32) → xM} (hΦ : MLaw m Φ) {A : Nat → Int → Int} (hR : RG A) {x1 x2 x3 : Int} (rr : Rg x1 ∧ Rg x2 ∧ Rg x3) (h : (((x1 < x2) → Q (some (.int (iz 0))) (Φ (mI A))) ∧ (¬ (x1 < x2) → (((x3 < x1) → Q (some (.int (iz 0))) (Φ (mI A))) ∧ (¬ (x3 < x1) → Q (some (.int (iz 1))) (Φ (mI A))))))) : wpE (xT 129) (xev xT d) Q (0, [(0, .ref m), (1, .int (iz x1)), (2, .int (iz x2)), (3, .int (iz x3))], [], Φ (mI A)) := by
  refine p_ild (cc3 c129_0) rfl ?_
  refine p_ild (cc3 c129_1) rfl ?_
  refine i_icmp (c' := x1 < x2) (cc3 c129_2) (iz_lt rr.1 rr.2.1) (fun c => ?_) (fun c => ?_)
  · have h := h.1 c
    refine p_lc (ls' := []) c129_14 rfl rfl ?_
    refine i_push (n := 0) (cct c129_14 rfl) zl_0 ?_
    exact i_ri (cct c129_15 rfl) (by decide) h
  · have h := h.2 c
    refine p_ild (cc3 c129_5) rfl ?_
    refine p_ild (cc3 c129_6) rfl ?_
    refine i_icmp (c' := x3 < x1) (cc3 c129_7) (iz_lt rr.2.2 rr.1) (fun c => ?_) (fun c => ?_)
    · have h := h.1 c
      refine p_lc (ls' := []) c129_14 rfl rfl ?_
      refine i_push (n := 0) (cct c129_14 rfl) zl_0 ?_
      exact i_ri (cct c129_15 rfl) (by decide) h
    · have h := h.2 c
      refine i_push (n := 1) (cc3 c129_10) zl_1 ?_
      refine p_goto (cc3 c129_11) ?_
      refine p_lc (ls' := []) c129_15 rfl rfl ?_
      exact i_ri (cct c129_15 rfl) (by decide) h
theorem S129 {d : Nat} (hd : 1 ≤ d) {m : Nat} {Φ : (Nat → Nat → Int32) → xM} (hΦ : MLaw m Φ) {A : Nat → Int → Int} (hR : RG A) {x1 x2 x3 : Int} (rr : Rg x1 ∧ Rg x2 ∧ Rg x3) : xev xT d 129 [.ref m, .int (iz x1), .int (iz x2), .int (iz x3)] (Φ (mI A)) (some (.int (iz (bI (x2 ≤ x1 ∧ x1 ≤ x3))))) (Φ (mI A)) := by
  refine xev_i (D := 0) hd (Nat.le_of_ble_eq_true rfl) (fun d hd => V129_0 hd hΦ hR rr ?_)
  repeat' (first | refine And.intro ?_ ?_ | intro _)
  all_goals (first | assumption | rfl | omega | (refine congrArg (fun z => some (Value.int (iz z))) ?_; first | omega | exact (bI_f (by omega)).symm | exact (bI_t (by omega)).symm | exact bI_i (by omega)))
theorem V135_0 {d : Nat} (hd : 1 ≤ d) {Q : Option Value → xM → Prop} {m : Nat} {Φ : (Nat → Nat → Int32) → xM} (hΦ : MLaw m Φ) {A : Nat → Int → Int} (hR : RG A) {x1 : Int} (rr : Rg x1) (h : (Rg ((A 0 2) - 1)) ∧ Q (some (.int (iz (bI (0 ≤ x1 ∧ x1 ≤ ((A 0 2) - 1)))))) (Φ (mI A))) : wpE (xT 135) (xev xT d) Q (0, [(0, .ref m), (1, .int (iz x1))], [], Φ (mI A)) := by
  refine p_ald (cc3 c135_0) rfl ?_
  refine p_ild (cc3 c135_1) rfl ?_
  refine i_push (n := 0) (cc3 c135_2) zl_0 ?_
  refine p_ald (cc3 c135_3) rfl ?_
  refine n_geti hΦ (v := A 0 2) (cc3 c135_4) (ji := 2) rfl rfl ?_
  refine i_push (n := 1) (cc3 c135_7) zl_1 ?_
  obtain ⟨g1, h⟩ := h
  refine (fun _ : Rg ((A 0 2) - 1) => i_sub (cc3 c135_8) ?_) g1
  refine p_callV (cc3 c135_9) (Nat.le_of_ble_eq_true rfl) rfl rfl (Nat.le_of_ble_eq_true rfl) (ml_kd hΦ) (S129 (Nat.le_trans (by decide) hd) hΦ hR ⟨rr, (by decide), g1⟩) ?_
  exact i_riB (cc3 c135_12) h
theorem S135 {d : Nat} (hd : 2 ≤ d) {m : Nat} {Φ : (Nat → Nat → Int32) → xM} (hΦ : MLaw m Φ) {A : Nat → Int → Int} (hR : RG A) {x1 : Int} (rr : Rg x1) (hp : (0 ≤ A 0 2)) : xev xT d 135 [.ref m, .int (iz x1)] (Φ (mI A)) (some (.int (iz (bI (0 ≤ x1 ∧ x1 ≤ A 0 2 - 1))))) (Φ (mI A)) := by
  refine xev_i (D := 1) hd (Nat.le_of_ble_eq_true rfl) (fun d hd => V135_0 hd hΦ hR rr ?_)
  have r2 := hR 0 2
  repeat' (first | refine And.intro ?_ ?_ | intro _)
  all_goals (first | assumption | rfl | omega | (refine congrArg (fun z => some (Value.int (iz z))) ?_; first | omega | exact (bI_f (by omega)).symm | exact (bI_t (by omega)).symm | exact bI_i (by omega)))
theorem V143_0 {d : Nat} (hd : 1 ≤ d) {Q : Option Value → xM → Prop} {m : Nat} {Φ : (Nat → Nat → Int32) → xM} (hΦ : MLaw m Φ) {A : Nat → Int → Int} (hR : RG A) {x1 : Int} (rr : Rg x1) (h : (Rg ((A 0 8) - 1)) ∧ Q (some (.int (iz (bI (0 ≤ x1 ∧ x1 ≤ ((A 0 8) - 1)))))) (Φ (mI A))) : wpE (xT 143) (xev xT d) Q (0, [(0, .ref m), (1, .int (iz x1))], [], Φ (mI A)) := by
  refine p_ald (cc3 c143_0) rfl ?_
  refine p_ild (cc3 c143_1) rfl ?_
  refine i_push (n := 0) (cc3 c143_2) zl_0 ?_
  refine p_ald (cc3 c143_3) rfl ?_
  refine n_geti hΦ (v := A 0 8) (cc3 c143_4) (ji := 8) rfl rfl ?_
  refine i_push (n := 1) (cc3 c143_7) zl_1 ?_
  obtain ⟨g1, h⟩ := h
  refine (fun _ : Rg ((A 0 8) - 1) => i_sub (cc3 c143_8) ?_) g1
  refine p_callV (cc3 c143_9) (Nat.le_of_ble_eq_true rfl) rfl rfl (Nat.le_of_ble_eq_true rfl) (ml_kd hΦ) (S129 (Nat.le_trans (by decide) hd) hΦ hR ⟨rr, (by decide), g1⟩) ?_
  exact i_riB (cc3 c143_12) h
theorem S143 {d : Nat} (hd : 2 ≤ d) {m : Nat} {Φ : (Nat → Nat → Int32) → xM} (hΦ : MLaw m Φ) {A : Nat → Int → Int} (hR : RG A) {x1 : Int} (rr : Rg x1) (hp : (0 ≤ A 0 8)) : xev xT d 143 [.ref m, .int (iz x1)] (Φ (mI A)) (some (.int (iz (bI (0 ≤ x1 ∧ x1 ≤ A 0 8 - 1))))) (Φ (mI A)) := by
  refine xev_i (D := 1) hd (Nat.le_of_ble_eq_true rfl) (fun d hd => V143_0 hd hΦ hR rr ?_)
  have r2 := hR 0 8
  repeat' (first | refine And.intro ?_ ?_ | intro _)
  all_goals (first | assumption | rfl | omega | (refine congrArg (fun z => some (Value.int (iz z))) ?_; first | omega | exact (bI_f (by omega)).symm | exact (bI_t (by omega)).symm | exact bI_i (by omega)))
theorem V147_0 {d : Nat} (hd : 1 ≤ d) {Q : Option Value → xM → Prop} {m : Nat} {Φ : (Nat → Nat → Int32) → xM} (hΦ : MLaw m Φ) {A : Nat → Int → Int} (hR : RG A) {x1 : Int} (rr : Rg x1) (h : (Rg ((A 0 13) - 1)) ∧ Q (some (.int (iz (bI (0 ≤ x1 ∧ x1 ≤ ((A 0 13) - 1)))))) (Φ (mI A))) : wpE (xT 147) (xev xT d) Q (0, [(0, .ref m), (1, .int (iz x1))], [], Φ (mI A)) := by
  refine p_ald (cc3 c147_0) rfl ?_
  refine p_ild (cc3 c147_1) rfl ?_
  refine i_push (n := 0) (cc3 c147_2) zl_0 ?_
  refine p_ald (cc3 c147_3) rfl ?_
  refine n_geti hΦ (v := A 0 13) (cc3 c147_4) (ji := 13) rfl rfl ?_
  refine i_push (n := 1) (cc3 c147_7) zl_1 ?_
  obtain ⟨g1, h⟩ := h
  refine (fun _ : Rg ((A 0 13) - 1) => i_sub (cc3 c147_8) ?_) g1
  refine p_callV (cc3 c147_9) (Nat.le_of_ble_eq_true rfl) rfl rfl (Nat.le_of_ble_eq_true rfl) (ml_kd hΦ) (S129 (Nat.le_trans (by decide) hd) hΦ hR ⟨rr, (by decide), g1⟩) ?_
  exact i_riB (cc3 c147_12) h
theorem S147 {d : Nat} (hd : 2 ≤ d) {m : Nat} {Φ : (Nat → Nat → Int32) → xM} (hΦ : MLaw m Φ) {A : Nat → Int → Int} (hR : RG A) {x1 : Int} (rr : Rg x1) (hp : (0 ≤ A 0 13)) : xev xT d 147 [.ref m, .int (iz x1)] (Φ (mI A)) (some (.int (iz (bI (0 ≤ x1 ∧ x1 ≤ A 0 13 - 1))))) (Φ (mI A)) := by
  refine xev_i (D := 1) hd (Nat.le_of_ble_eq_true rfl) (fun d hd => V147_0 hd hΦ hR rr ?_)
  have r2 := hR 0 13
  repeat' (first | refine And.intro ?_ ?_ | intro _)
  all_goals (first | assumption | rfl | omega | (refine congrArg (fun z => some (Value.int (iz z))) ?_; first | omega | exact (bI_f (by omega)).symm | exact (bI_t (by omega)).symm | exact bI_i (by omega)))
theorem V197_0 {d : Nat} (hd : 1 ≤ d) {Q : Option Value → xM → Prop} {m : Nat} {Φ : (Nat → Nat → Int32) → xM} (hΦ : MLaw m Φ) {A : Nat → Int → Int} (hR : RG A) {x1 : Int} (rr : Rg x1) (h : Q (some (.int (iz (bI (0 ≤ x1 ∧ x1 ≤ 3))))) (Φ (mI A))) : wpE (xT 197) (xev xT d) Q (0, [(0, .ref m), (1, .int (iz x1))], [], Φ (mI A)) := by
  refine p_ald (cc3 c197_0) rfl ?_
  refine p_ild (cc3 c197_1) rfl ?_
  refine i_push (n := 0) (cc3 c197_2) zl_0 ?_
  refine i_push (n := 3) (cc3 c197_3) zl_3 ?_
  refine p_callV (cc3 c197_4) (Nat.le_of_ble_eq_true rfl) rfl rfl (Nat.le_of_ble_eq_true rfl) (ml_kd hΦ) (S129 (Nat.le_trans (by decide) hd) hΦ hR ⟨rr, (by decide), (by decide)⟩) ?_
  exact i_riB (cc3 c197_7) h
theorem S197 {d : Nat} (hd : 2 ≤ d) {m : Nat} {Φ : (Nat → Nat → Int32) → xM} (hΦ : MLaw m Φ) {A : Nat → Int → Int} (hR : RG A) {x1 : Int} (rr : Rg x1) : xev xT d 197 [.ref m, .int (iz x1)] (Φ (mI A)) (some (.int (iz (bI (0 ≤ x1 ∧ x1 ≤ 3))))) (Φ (mI A)) := by
  refine xev_i (D := 1) hd (Nat.le_of_ble_eq_true rfl) (fun d hd => V197_0 hd hΦ hR rr ?_)
  repeat' (first | refine And.intro ?_ ?_ | intro _)
  all_goals (first | assumption | rfl | omega | (refine congrArg (fun z => some (Value.int (iz z))) ?_; first | omega | exact (bI_f (by omega)).symm | exact (bI_t (by omega)).symm | exact bI_i (by omega)))
theorem V160_0 {d : Nat} (hd : 2 ≤ d) {Q : Option Value → xM → Prop} {m : Nat} {Φ : (Nat → Nat → Int32) → xM} (hΦ : MLaw m Φ) {A : Nat → Int → Int} (hR : RG A) {x1 : Int} (rr : Rg x1) (h : (0 ≤ A 0 13) ∧ ((¬ (0 ≤ x1 ∧ x1 ≤ A 0 13 - 1) → Q (some (.int (iz 0))) (Φ (mI A))) ∧ ((0 ≤ x1 ∧ x1 ≤ A 0 13 - 1) → (0 ≤ x1 ∧ x1 < 8) ∧ ((((A 20 x1) < 0) → Q (some (.int (iz 0))) (Φ (mI A))) ∧ (¬ ((A 20 x1) < 0) → Q (some (.int (iz 1))) (Φ (mI A))))))) : wpE (xT 160) (xev xT d) Q (0, [(0, .ref m), (1, .int (iz x1))], [], Φ (mI A)) := by
  refine p_ald (cc3 c160_0) rfl ?_
  refine p_ild (cc3 c160_1) rfl ?_
  obtain ⟨g1, h⟩ := h
  refine p_callV (cc3 c160_2) (Nat.le_of_ble_eq_true rfl) rfl rfl (Nat.le_of_ble_eq_true rfl) (ml_kd hΦ) (S147 (Nat.le_trans (by decide) hd) hΦ hR rr g1) ?_
  refine i_ifB (cc3 c160_5) (fun c => ?_) (fun c => ?_)
  · have h := h.1 c
    refine p_lc (ls' := []) c160_21 rfl rfl ?_
    refine i_push (n := 0) (cct c160_21 rfl) zl_0 ?_
    exact i_ri (cct c160_22 rfl) (by decide) h
  · have h := h.2 c
    refine p_ald (cc3 c160_8) rfl ?_
    refine pm_getp hΦ (cc3 c160_9) (c := 20) rfl (by decide) ?_
    refine p_ild (cc3 c160_12) rfl ?_
    obtain ⟨g2, h⟩ := h
    refine n_aldi hΦ (c := 20) (n := 8) (ni := 8) (cc3 c160_13) (by decide) rfl rfl rfl (by decide) g2 (v := A 20 x1) rfl ?_
    refine i_if (c' := (A 20 x1) < 0) (cc3 c160_14) (c_lt0 (hR 20 x1)) (fun c => ?_) (fun c => ?_)
    · have h := h.1 c
      refine p_lc (ls' := []) c160_21 rfl rfl ?_
      refine i_push (n := 0) (cct c160_21 rfl) zl_0 ?_
      exact i_ri (cct c160_22 rfl) (by decide) h
    · have h := h.2 c
      refine i_push (n := 1) (cc3 c160_17) zl_1 ?_
      refine p_goto (cc3 c160_18) ?_
      refine p_lc (ls' := []) c160_22 rfl rfl ?_
      exact i_ri (cct c160_22 rfl) (by decide) h
theorem S160 {d : Nat} (hd : 3 ≤ d) {m : Nat} {Φ : (Nat → Nat → Int32) → xM} (hΦ : MLaw m Φ) {A : Nat → Int → Int} (hR : RG A) {x1 : Int} (rr : Rg x1) (hp : (0 ≤ A 0 13 ∧ A 0 13 ≤ 8)) : xev xT d 160 [.ref m, .int (iz x1)] (Φ (mI A)) (some (.int (iz (bI ((0 ≤ x1 ∧ x1 ≤ A 0 13 - 1) ∧ 0 ≤ A 20 x1))))) (Φ (mI A)) := by
  refine xev_i (D := 2) hd (Nat.le_of_ble_eq_true rfl) (fun d hd => V160_0 hd hΦ hR rr ?_)
  repeat' (first | refine And.intro ?_ ?_ | intro _)
  all_goals (first | assumption | rfl | omega | (refine congrArg (fun z => some (Value.int (iz z))) ?_; first | omega | exact (bI_f (by omega)).symm | exact (bI_t (by omega)).symm | exact bI_i (by omega)))
theorem V150_0 {d : Nat} (hd : 0 ≤ d) {Q : Option Value → xM → Prop} {m : Nat} {Φ : (Nat → Nat → Int32) → xM} (hΦ : MLaw m Φ) {A : Nat → Int → Int} (hR : RG A) {x1 : Int} (rr : Rg x1) (h : (0 ≤ x1 ∧ x1 < 8) ∧ ((((A 11 x1) = 1) → Q (some (.int (iz 1))) (Φ (mI A))) ∧ (¬ ((A 11 x1) = 1) → ((((A 11 x1) = 3) → Q (some (.int (iz 1))) (Φ (mI A))) ∧ (¬ ((A 11 x1) = 3) → ((((A 11 x1) = 5) → Q (some (.int (iz 1))) (Φ (mI A))) ∧ (¬ ((A 11 x1) = 5) → Q (some (.int (iz 0))) (Φ (mI A))))))))) : wpE (xT 150) (xev xT d) Q (0, [(0, .ref m), (1, .int (iz x1))], [], Φ (mI A)) := by
  refine p_ald (cc3 c150_0) rfl ?_
  refine pm_getp hΦ (cc3 c150_1) (c := 11) rfl (by decide) ?_
  refine p_ild (cc3 c150_4) rfl ?_
  obtain ⟨g1, h⟩ := h
  refine n_aldi hΦ (c := 11) (n := 8) (ni := 8) (cc3 c150_5) (by decide) rfl rfl rfl (by decide) g1 (v := A 11 x1) rfl ?_
  refine i_push (n := 1) (cc3 c150_6) zl_1 ?_
  refine i_icmp (c' := (A 11 x1) = 1) (cc3 c150_7) (iz_inj (hR 11 x1) (by decide)) (fun c => ?_) (fun c => ?_)
  · have h := h.1 c
    refine p_lc (ls' := []) c150_30 rfl rfl ?_
    refine i_push (n := 1) (cct c150_30 rfl) zl_1 ?_
    refine p_goto (cc3 c150_31) ?_
    exact i_ri (cct c150_35 rfl) (by decide) h
  · have h := h.2 c
    refine p_ald (cc3 c150_10) rfl ?_
    refine pm_getp hΦ (cc3 c150_11) (c := 11) rfl (by decide) ?_
    refine p_ild (cc3 c150_14) rfl ?_
    refine n_aldi hΦ (c := 11) (n := 8) (ni := 8) (cc3 c150_15) (by decide) rfl rfl rfl (by decide) g1 (v := A 11 x1) rfl ?_
    refine i_push (n := 3) (cc3 c150_16) zl_3 ?_
    refine i_icmp (c' := (A 11 x1) = 3) (cc3 c150_17) (iz_inj (hR 11 x1) (by decide)) (fun c => ?_) (fun c => ?_)
    · have h := h.1 c
      refine p_lc (ls' := []) c150_30 rfl rfl ?_
      refine i_push (n := 1) (cct c150_30 rfl) zl_1 ?_
      refine p_goto (cc3 c150_31) ?_
      exact i_ri (cct c150_35 rfl) (by decide) h
    · have h := h.2 c
      refine p_ald (cc3 c150_20) rfl ?_
      refine pm_getp hΦ (cc3 c150_21) (c := 11) rfl (by decide) ?_
      refine p_ild (cc3 c150_24) rfl ?_
      refine n_aldi hΦ (c := 11) (n := 8) (ni := 8) (cc3 c150_25) (by decide) rfl rfl rfl (by decide) g1 (v := A 11 x1) rfl ?_
      refine i_push (n := 5) (cc3 c150_26) zl_5 ?_
      refine i_icmp (c' := (A 11 x1) = 5) (cc3 c150_27) (iz_inj (hR 11 x1) (by decide)) (fun c => ?_) (fun c => ?_)
      · have h := h.1 c
        refine p_lc (ls' := []) c150_30 rfl rfl ?_
        refine i_push (n := 1) (cct c150_30 rfl) zl_1 ?_
        refine p_goto (cc3 c150_31) ?_
        exact i_ri (cct c150_35 rfl) (by decide) h
      · have h := h.2 c
        refine i_push (n := 0) (cc3 c150_34) zl_0 ?_
        refine p_lc (ls' := []) c150_35 rfl rfl ?_
        exact i_ri (cct c150_35 rfl) (by decide) h
theorem S150 {d : Nat} (hd : 1 ≤ d) {m : Nat} {Φ : (Nat → Nat → Int32) → xM} (hΦ : MLaw m Φ) {A : Nat → Int → Int} (hR : RG A) {x1 : Int} (rr : Rg x1) (hp : (0 ≤ x1 ∧ x1 < 8)) : xev xT d 150 [.ref m, .int (iz x1)] (Φ (mI A)) (some (.int (iz (bI (A 11 x1 = 1 ∨ A 11 x1 = 3 ∨ A 11 x1 = 5))))) (Φ (mI A)) := by
  refine xev_i (D := 0) hd (Nat.le_of_ble_eq_true rfl) (fun d hd => V150_0 hd hΦ hR rr ?_)
  repeat' (first | refine And.intro ?_ ?_ | intro _)
  all_goals (first | assumption | rfl | omega | (refine congrArg (fun z => some (Value.int (iz z))) ?_; first | omega | exact (bI_f (by omega)).symm | exact (bI_t (by omega)).symm | exact bI_i (by omega)))
theorem V173_0 {d : Nat} (hd : 0 ≤ d) {Q : Option Value → xM → Prop} {m : Nat} {Φ : (Nat → Nat → Int32) → xM} (hΦ : MLaw m Φ) {A : Nat → Int → Int} (hR : RG A) {x1 : Int} (rr : Rg x1) (h : (((x1 < 97) → Q (some (.int (iz 0))) (Φ (mI A))) ∧ (¬ (x1 < 97) → (((122 < x1) → Q (some (.int (iz 0))) (Φ (mI A))) ∧ (¬ (122 < x1) → Q (some (.int (iz 1))) (Φ (mI A))))))) : wpE (xT 173) (xev xT d) Q (0, [(0, .ref m), (1, .int (iz x1))], [], Φ (mI A)) := by
  refine p_ild (cc3 c173_0) rfl ?_
  refine i_push (n := 97) (cc3 c173_1) zl_97 ?_
  refine i_icmp (c' := x1 < 97) (cc3 c173_3) (iz_lt rr (by decide)) (fun c => ?_) (fun c => ?_)
  · have h := h.1 c
    refine p_lc (ls' := []) c173_16 rfl rfl ?_
    refine i_push (n := 0) (cct c173_16 rfl) zl_0 ?_
    exact i_ri (cct c173_17 rfl) (by decide) h
  · have h := h.2 c
    refine p_ild (cc3 c173_6) rfl ?_
    refine i_push (n := 122) (cc3 c173_7) zl_122 ?_
    refine i_icmp (c' := 122 < x1) (cc3 c173_9) (iz_lt (by decide) rr) (fun c => ?_) (fun c => ?_)
    · have h := h.1 c
      refine p_lc (ls' := []) c173_16 rfl rfl ?_
      refine i_push (n := 0) (cct c173_16 rfl) zl_0 ?_
      exact i_ri (cct c173_17 rfl) (by decide) h
    · have h := h.2 c
      refine i_push (n := 1) (cc3 c173_12) zl_1 ?_
      refine p_goto (cc3 c173_13) ?_
      refine p_lc (ls' := []) c173_17 rfl rfl ?_
      exact i_ri (cct c173_17 rfl) (by decide) h
theorem S173 {d : Nat} (hd : 1 ≤ d) {m : Nat} {Φ : (Nat → Nat → Int32) → xM} (hΦ : MLaw m Φ) {A : Nat → Int → Int} (hR : RG A) {x1 : Int} (rr : Rg x1) : xev xT d 173 [.ref m, .int (iz x1)] (Φ (mI A)) (some (.int (iz (bI (97 ≤ x1 ∧ x1 ≤ 122))))) (Φ (mI A)) := by
  refine xev_i (D := 0) hd (Nat.le_of_ble_eq_true rfl) (fun d hd => V173_0 hd hΦ hR rr ?_)
  repeat' (first | refine And.intro ?_ ?_ | intro _)
  all_goals (first | assumption | rfl | omega | (refine congrArg (fun z => some (Value.int (iz z))) ?_; first | omega | exact (bI_f (by omega)).symm | exact (bI_t (by omega)).symm | exact bI_i (by omega)))
theorem V176_0 {d : Nat} (hd : 0 ≤ d) {Q : Option Value → xM → Prop} {m : Nat} {Φ : (Nat → Nat → Int32) → xM} (hΦ : MLaw m Φ) {A : Nat → Int → Int} (hR : RG A) {x1 : Int} (rr : Rg x1) (h : (((x1 < 48) → Q (some (.int (iz 0))) (Φ (mI A))) ∧ (¬ (x1 < 48) → (((57 < x1) → Q (some (.int (iz 0))) (Φ (mI A))) ∧ (¬ (57 < x1) → Q (some (.int (iz 1))) (Φ (mI A))))))) : wpE (xT 176) (xev xT d) Q (0, [(0, .ref m), (1, .int (iz x1))], [], Φ (mI A)) := by
  refine p_ild (cc3 c176_0) rfl ?_
  refine i_push (n := 48) (cc3 c176_1) zl_48 ?_
  refine i_icmp (c' := x1 < 48) (cc3 c176_3) (iz_lt rr (by decide)) (fun c => ?_) (fun c => ?_)
  · have h := h.1 c
    refine p_lc (ls' := []) c176_16 rfl rfl ?_
    refine i_push (n := 0) (cct c176_16 rfl) zl_0 ?_
    exact i_ri (cct c176_17 rfl) (by decide) h
  · have h := h.2 c
    refine p_ild (cc3 c176_6) rfl ?_
    refine i_push (n := 57) (cc3 c176_7) zl_57 ?_
    refine i_icmp (c' := 57 < x1) (cc3 c176_9) (iz_lt (by decide) rr) (fun c => ?_) (fun c => ?_)
    · have h := h.1 c
      refine p_lc (ls' := []) c176_16 rfl rfl ?_
      refine i_push (n := 0) (cct c176_16 rfl) zl_0 ?_
      exact i_ri (cct c176_17 rfl) (by decide) h
    · have h := h.2 c
      refine i_push (n := 1) (cc3 c176_12) zl_1 ?_
      refine p_goto (cc3 c176_13) ?_
      refine p_lc (ls' := []) c176_17 rfl rfl ?_
      exact i_ri (cct c176_17 rfl) (by decide) h
theorem S176 {d : Nat} (hd : 1 ≤ d) {m : Nat} {Φ : (Nat → Nat → Int32) → xM} (hΦ : MLaw m Φ) {A : Nat → Int → Int} (hR : RG A) {x1 : Int} (rr : Rg x1) : xev xT d 176 [.ref m, .int (iz x1)] (Φ (mI A)) (some (.int (iz (bI (48 ≤ x1 ∧ x1 ≤ 57))))) (Φ (mI A)) := by
  refine xev_i (D := 0) hd (Nat.le_of_ble_eq_true rfl) (fun d hd => V176_0 hd hΦ hR rr ?_)
  repeat' (first | refine And.intro ?_ ?_ | intro _)
  all_goals (first | assumption | rfl | omega | (refine congrArg (fun z => some (Value.int (iz z))) ?_; first | omega | exact (bI_f (by omega)).symm | exact (bI_t (by omega)).symm | exact bI_i (by omega)))
theorem V177_0 {d : Nat} (hd : 0 ≤ d) {Q : Option Value → xM → Prop} {m : Nat} {Φ : (Nat → Nat → Int32) → xM} (hΦ : MLaw m Φ) {A : Nat → Int → Int} (hR : RG A) {x1 : Int} (rr : Rg x1) (h : ((((A 0 47) = 3) → ((((A 0 48) = x1) → Q (some (.int (iz 1))) (Φ (mI A))) ∧ (¬ ((A 0 48) = x1) → Q (some (.int (iz 0))) (Φ (mI A))))) ∧ (¬ ((A 0 47) = 3) → Q (some (.int (iz 0))) (Φ (mI A))))) : wpE (xT 177) (xev xT d) Q (0, [(0, .ref m), (1, .int (iz x1))], [], Φ (mI A)) := by
  refine p_ald (cc3 c177_0) rfl ?_
  refine n_geti hΦ (v := A 0 47) (cc3 c177_1) (ji := 47) rfl rfl ?_
  refine i_push (n := 3) (cc3 c177_4) zl_3 ?_
  refine i_icmp (c' := (A 0 47) = 3) (cc3 c177_5) (iz_inj (hR 0 47) (by decide)) (fun c => ?_) (fun c => ?_)
  · have h := h.1 c
    refine p_ald (cc3 c177_8) rfl ?_
    refine n_geti hΦ (v := A 0 48) (cc3 c177_9) (ji := 48) rfl rfl ?_
    refine p_ild (cc3 c177_12) rfl ?_
    refine i_icmp (c' := (A 0 48) = x1) (cc3 c177_13) (iz_inj (hR 0 48) rr) (fun c => ?_) (fun c => ?_)
    · have h := h.1 c
      refine i_push (n := 1) (cc3 c177_16) zl_1 ?_
      refine p_goto (cc3 c177_17) ?_
      refine p_lc (ls' := []) c177_21 rfl rfl ?_
      exact i_ri (cct c177_21 rfl) (by decide) h
    · have h := h.2 c
      refine p_lc (ls' := []) c177_20 rfl rfl ?_
      refine i_push (n := 0) (cct c177_20 rfl) zl_0 ?_
      exact i_ri (cct c177_21 rfl) (by decide) h
  · have h := h.2 c
    refine p_lc (ls' := []) c177_20 rfl rfl ?_
    refine i_push (n := 0) (cct c177_20 rfl) zl_0 ?_
    exact i_ri (cct c177_21 rfl) (by decide) h
theorem S177 {d : Nat} (hd : 1 ≤ d) {m : Nat} {Φ : (Nat → Nat → Int32) → xM} (hΦ : MLaw m Φ) {A : Nat → Int → Int} (hR : RG A) {x1 : Int} (rr : Rg x1) : xev xT d 177 [.ref m, .int (iz x1)] (Φ (mI A)) (some (.int (iz (bI (A 0 47 = 3 ∧ A 0 48 = x1))))) (Φ (mI A)) := by
  refine xev_i (D := 0) hd (Nat.le_of_ble_eq_true rfl) (fun d hd => V177_0 hd hΦ hR rr ?_)
  repeat' (first | refine And.intro ?_ ?_ | intro _)
  all_goals (first | assumption | rfl | omega | (refine congrArg (fun z => some (Value.int (iz z))) ?_; first | omega | exact (bI_f (by omega)).symm | exact (bI_t (by omega)).symm | exact bI_i (by omega)))
theorem V180_0 {d : Nat} (hd : 0 ≤ d) {Q : Option Value → xM → Prop} {m : Nat} {Φ : (Nat → Nat → Int32) → xM} (hΦ : MLaw m Φ) {A : Nat → Int → Int} (hR : RG A) {x1 : Int} (rr : Rg x1) (h : ((((A 0 47) = 4) → ((((A 0 48) = x1) → Q (some (.int (iz 1))) (Φ (mI A))) ∧ (¬ ((A 0 48) = x1) → Q (some (.int (iz 0))) (Φ (mI A))))) ∧ (¬ ((A 0 47) = 4) → Q (some (.int (iz 0))) (Φ (mI A))))) : wpE (xT 180) (xev xT d) Q (0, [(0, .ref m), (1, .int (iz x1))], [], Φ (mI A)) := by
  refine p_ald (cc3 c180_0) rfl ?_
  refine n_geti hΦ (v := A 0 47) (cc3 c180_1) (ji := 47) rfl rfl ?_
  refine i_push (n := 4) (cc3 c180_4) zl_4 ?_
  refine i_icmp (c' := (A 0 47) = 4) (cc3 c180_5) (iz_inj (hR 0 47) (by decide)) (fun c => ?_) (fun c => ?_)
  · have h := h.1 c
    refine p_ald (cc3 c180_8) rfl ?_
    refine n_geti hΦ (v := A 0 48) (cc3 c180_9) (ji := 48) rfl rfl ?_
    refine p_ild (cc3 c180_12) rfl ?_
    refine i_icmp (c' := (A 0 48) = x1) (cc3 c180_13) (iz_inj (hR 0 48) rr) (fun c => ?_) (fun c => ?_)
    · have h := h.1 c
      refine i_push (n := 1) (cc3 c180_16) zl_1 ?_
      refine p_goto (cc3 c180_17) ?_
      refine p_lc (ls' := []) c180_21 rfl rfl ?_
      exact i_ri (cct c180_21 rfl) (by decide) h
    · have h := h.2 c
      refine p_lc (ls' := []) c180_20 rfl rfl ?_
      refine i_push (n := 0) (cct c180_20 rfl) zl_0 ?_
      exact i_ri (cct c180_21 rfl) (by decide) h
  · have h := h.2 c
    refine p_lc (ls' := []) c180_20 rfl rfl ?_
    refine i_push (n := 0) (cct c180_20 rfl) zl_0 ?_
    exact i_ri (cct c180_21 rfl) (by decide) h
theorem S180 {d : Nat} (hd : 1 ≤ d) {m : Nat} {Φ : (Nat → Nat → Int32) → xM} (hΦ : MLaw m Φ) {A : Nat → Int → Int} (hR : RG A) {x1 : Int} (rr : Rg x1) : xev xT d 180 [.ref m, .int (iz x1)] (Φ (mI A)) (some (.int (iz (bI (A 0 47 = 4 ∧ A 0 48 = x1))))) (Φ (mI A)) := by
  refine xev_i (D := 0) hd (Nat.le_of_ble_eq_true rfl) (fun d hd => V180_0 hd hΦ hR rr ?_)
  repeat' (first | refine And.intro ?_ ?_ | intro _)
  all_goals (first | assumption | rfl | omega | (refine congrArg (fun z => some (Value.int (iz z))) ?_; first | omega | exact (bI_f (by omega)).symm | exact (bI_t (by omega)).symm | exact bI_i (by omega)))
theorem V133_0 {d : Nat} (hd : 0 ≤ d) {Q : Option Value → xM → Prop} {m : Nat} {Φ : (Nat → Nat → Int32) → xM} (hΦ : MLaw m Φ) {A : Nat → Int → Int} (hR : RG A) {x1 : Int} (rr : Rg x1) (h : ((((A 0 1) ≤ (A 0 46)) → Q (some (.int (iz 0))) (Φ (mI A))) ∧ (¬ ((A 0 1) ≤ (A 0 46)) → (0 ≤ (A 0 46) ∧ (A 0 46) < 160) ∧ (Rg (48 + x1)) ∧ ((((A 1 (A 0 46)) < (48 + x1)) → Q (some (.int (iz 0))) (Φ (mI A))) ∧ (¬ ((A 1 (A 0 46)) < (48 + x1)) → (((57 < (A 1 (A 0 46))) → Q (some (.int (iz 0))) (Φ (mI A))) ∧ (¬ (57 < (A 1 (A 0 46))) → Q (some (.int (iz 1))) (Φ (mI A))))))))) : wpE (xT 133) (xev xT d) Q (0, [(0, .ref m), (1, .int (iz x1))], [], Φ (mI A)) := by
  refine p_ald (cc3 c133_0) rfl ?_
  refine n_geti hΦ (v := A 0 46) (cc3 c133_1) (ji := 46) rfl rfl ?_
  refine p_ald (cc3 c133_4) rfl ?_
  refine n_geti hΦ (v := A 0 1) (cc3 c133_5) (ji := 1) rfl rfl ?_
  refine i_icmp (c' := (A 0 1) ≤ (A 0 46)) (cc3 c133_8) (iz_le (hR 0 1) (hR 0 46)) (fun c => ?_) (fun c => ?_)
  · have h := h.1 c
    refine p_lc (ls' := []) c133_45 rfl rfl ?_
    refine i_push (n := 0) (cct c133_45 rfl) zl_0 ?_
    exact i_ri (cct c133_46 rfl) (by decide) h
  · have h := h.2 c
    refine p_ald (cc3 c133_11) rfl ?_
    refine pm_getp hΦ (cc3 c133_12) (c := 1) rfl (by decide) ?_
    refine p_ald (cc3 c133_15) rfl ?_
    refine n_geti hΦ (v := A 0 46) (cc3 c133_16) (ji := 46) rfl rfl ?_
    obtain ⟨g1, h⟩ := h
    refine n_aldi hΦ (c := 1) (n := 160) (ni := 160) (cc3 c133_19) (by decide) rfl rfl rfl (by decide) g1 (v := A 1 (A 0 46)) rfl ?_
    refine i_push (n := 48) (cc3 c133_20) zl_48 ?_
    refine p_ild (cc3 c133_22) rfl ?_
    obtain ⟨g2, h⟩ := h
    refine (fun _ : Rg (48 + x1) => i_add (cc3 c133_23) ?_) g2
    refine i_icmp (c' := (A 1 (A 0 46)) < (48 + x1)) (cc3 c133_24) (iz_lt (hR 1 (A 0 46)) g2) (fun c => ?_) (fun c => ?_)
    · have h := h.1 c
      refine p_lc (ls' := []) c133_45 rfl rfl ?_
      refine i_push (n := 0) (cct c133_45 rfl) zl_0 ?_
      exact i_ri (cct c133_46 rfl) (by decide) h
    · have h := h.2 c
      refine p_ald (cc3 c133_27) rfl ?_
      refine pm_getp hΦ (cc3 c133_28) (c := 1) rfl (by decide) ?_
      refine p_ald (cc3 c133_31) rfl ?_
      refine n_geti hΦ (v := A 0 46) (cc3 c133_32) (ji := 46) rfl rfl ?_
      refine n_aldi hΦ (c := 1) (n := 160) (ni := 160) (cc3 c133_35) (by decide) rfl rfl rfl (by decide) g1 (v := A 1 (A 0 46)) rfl ?_
      refine i_push (n := 57) (cc3 c133_36) zl_57 ?_
      refine i_icmp (c' := 57 < (A 1 (A 0 46))) (cc3 c133_38) (iz_lt (by decide) (hR 1 (A 0 46))) (fun c => ?_) (fun c => ?_)
      · have h := h.1 c
        refine p_lc (ls' := []) c133_45 rfl rfl ?_
        refine i_push (n := 0) (cct c133_45 rfl) zl_0 ?_
        exact i_ri (cct c133_46 rfl) (by decide) h
      · have h := h.2 c
        refine i_push (n := 1) (cc3 c133_41) zl_1 ?_
        refine p_goto (cc3 c133_42) ?_
        refine p_lc (ls' := []) c133_46 rfl rfl ?_
        exact i_ri (cct c133_46 rfl) (by decide) h
theorem S133 {d : Nat} (hd : 1 ≤ d) {m : Nat} {Φ : (Nat → Nat → Int32) → xM} (hΦ : MLaw m Φ) {A : Nat → Int → Int} (hR : RG A) {x1 : Int} (rr : Rg x1) (hp : (0 ≤ A 0 46) ∧ (A 0 1 ≤ 160) ∧ (0 ≤ x1 ∧ x1 ≤ 1)) : xev xT d 133 [.ref m, .int (iz x1)] (Φ (mI A)) (some (.int (iz (bI (A 0 46 < A 0 1 ∧ 48 + x1 ≤ A 1 (A 0 46) ∧ A 1 (A 0 46) ≤ 57))))) (Φ (mI A)) := by
  refine xev_i (D := 0) hd (Nat.le_of_ble_eq_true rfl) (fun d hd => V133_0 hd hΦ hR rr ?_)
  repeat' (first | refine And.intro ?_ ?_ | intro _)
  all_goals (first | assumption | rfl | omega | (refine congrArg (fun z => some (Value.int (iz z))) ?_; first | omega | exact (bI_f (by omega)).symm | exact (bI_t (by omega)).symm | exact bI_i (by omega)))
def m_settTold (A : Nat → Int → Int) (s w : Int) : Int := if (0 ≤ s ∧ s ≤ A 0 2 - 1) ∧ 0 ≤ w ∧ w ≤ 2 then (if w = 0 then A 3 s else if w = 1 then A 2 s else if A 6 s = 0 then 0 else 1) else -2
theorem V134_0 {d : Nat} (hd : 2 ≤ d) {Q : Option Value → xM → Prop} {m : Nat} {Φ : (Nat → Nat → Int32) → xM} (hΦ : MLaw m Φ) {A : Nat → Int → Int} (hR : RG A) {x1 x2 : Int} (rr : Rg x1 ∧ Rg x2) (h : (0 ≤ A 0 2) ∧ ((¬ (0 ≤ x1 ∧ x1 ≤ A 0 2 - 1) → Q (some (.int (iz (-2)))) (Φ (mI A))) ∧ ((0 ≤ x1 ∧ x1 ≤ A 0 2 - 1) → ((¬ (0 ≤ x2 ∧ x2 ≤ 2) → Q (some (.int (iz (-2)))) (Φ (mI A))) ∧ ((0 ≤ x2 ∧ x2 ≤ 2) → (((x2 = 0) → (0 ≤ x1 ∧ x1 < 5) ∧ Q (some (.int (iz (A 3 x1)))) (Φ (mI A))) ∧ (¬ (x2 = 0) → (((x2 = 1) → (0 ≤ x1 ∧ x1 < 5) ∧ Q (some (.int (iz (A 2 x1)))) (Φ (mI A))) ∧ (¬ (x2 = 1) → (0 ≤ x1 ∧ x1 < 5) ∧ ((((A 6 x1) = 0) → Q (some (.int (iz 0))) (Φ (mI A))) ∧ (¬ ((A 6 x1) = 0) → Q (some (.int (iz 1))) (Φ (mI A))))))))))))) : wpE (xT 134) (xev xT d) Q (0, [(0, .ref m), (1, .int (iz x1)), (2, .int (iz x2))], [], Φ (mI A)) := by
  refine p_ald (cc3 c134_0) rfl ?_
  refine p_ild (cc3 c134_1) rfl ?_
  obtain ⟨g1, h⟩ := h
  refine p_callV (cc3 c134_2) (Nat.le_of_ble_eq_true rfl) rfl rfl (Nat.le_of_ble_eq_true rfl) (ml_kd hΦ) (S135 (Nat.le_trans (by decide) hd) hΦ hR rr.1 g1) ?_
  refine i_ifB (cc3 c134_5) (fun c => ?_) (fun c => ?_)
  · have h := h.1 c
    refine p_lc (ls' := []) c134_18 rfl rfl ?_
    refine i_push (n := (-2)) (cct c134_18 rfl) zl_m2 ?_
    exact p_ri (cc3 c134_20) trivial h
  · have h := h.2 c
    refine p_ald (cc3 c134_8) rfl ?_
    refine p_ild (cc3 c134_9) rfl ?_
    refine i_push (n := 0) (cc3 c134_10) zl_0 ?_
    refine i_push (n := 2) (cc3 c134_11) zl_2 ?_
    refine p_callV (cc3 c134_12) (Nat.le_of_ble_eq_true rfl) rfl rfl (Nat.le_of_ble_eq_true rfl) (ml_kd hΦ) (S129 (Nat.le_trans (by decide) hd) hΦ hR ⟨rr.2, (by decide), (by decide)⟩) ?_
    refine i_ifB (cc3 c134_15) (fun c => ?_) (fun c => ?_)
    · have h := h.1 c
      refine p_lc (ls' := []) c134_18 rfl rfl ?_
      refine i_push (n := (-2)) (cct c134_18 rfl) zl_m2 ?_
      exact p_ri (cc3 c134_20) trivial h
    · have h := h.2 c
      refine p_ild (cc3 c134_21) rfl ?_
      refine i_if (c' := x2 = 0) (cc3 c134_22) (c_eq0 rr.2) (fun c => ?_) (fun c => ?_)
      · have h := h.1 c
        refine p_ald (cc3 c134_25) rfl ?_
        refine pm_getp hΦ (cc3 c134_26) (c := 3) rfl (by decide) ?_
        refine p_ild (cc3 c134_29) rfl ?_
        obtain ⟨g2, h⟩ := h
        refine n_aldi hΦ (c := 3) (n := 5) (ni := 5) (cc3 c134_30) (by decide) rfl rfl rfl (by decide) g2 (v := A 3 x1) rfl ?_
        refine p_goto (cc3 c134_31) ?_
        refine p_lc (ls' := []) c134_62 rfl rfl ?_
        exact p_ri (cct c134_62 rfl) trivial h
      · have h := h.2 c
        refine p_ild (cc3 c134_34) rfl ?_
        refine i_push (n := 1) (cc3 c134_35) zl_1 ?_
        refine i_icmp (c' := x2 = 1) (cc3 c134_36) (iz_inj rr.2 (by decide)) (fun c => ?_) (fun c => ?_)
        · have h := h.1 c
          refine p_ald (cc3 c134_39) rfl ?_
          refine pm_getp hΦ (cc3 c134_40) (c := 2) rfl (by decide) ?_
          refine p_ild (cc3 c134_43) rfl ?_
          obtain ⟨g2, h⟩ := h
          refine n_aldi hΦ (c := 2) (n := 5) (ni := 5) (cc3 c134_44) (by decide) rfl rfl rfl (by decide) g2 (v := A 2 x1) rfl ?_
          refine p_goto (cc3 c134_45) ?_
          refine p_lc (ls' := []) c134_62 rfl rfl ?_
          exact p_ri (cct c134_62 rfl) trivial h
        · have h := h.2 c
          refine p_ald (cc3 c134_48) rfl ?_
          refine pm_getp hΦ (cc3 c134_49) (c := 6) rfl (by decide) ?_
          refine p_ild (cc3 c134_52) rfl ?_
          obtain ⟨g2, h⟩ := h
          refine n_aldi hΦ (c := 6) (n := 5) (ni := 5) (cc3 c134_53) (by decide) rfl rfl rfl (by decide) g2 (v := A 6 x1) rfl ?_
          refine i_if (c' := (A 6 x1) = 0) (cc3 c134_54) (c_eq0 (hR 6 x1)) (fun c => ?_) (fun c => ?_)
          · have h := h.1 c
            refine i_push (n := 0) (cc3 c134_61) zl_0 ?_
            refine p_lc (ls' := []) c134_62 rfl rfl ?_
            exact p_ri (cct c134_62 rfl) trivial h
          · have h := h.2 c
            refine i_push (n := 1) (cc3 c134_57) zl_1 ?_
            refine p_goto (cc3 c134_58) ?_
            refine p_lc (ls' := []) c134_62 rfl rfl ?_
            exact p_ri (cct c134_62 rfl) trivial h
theorem S134 {d : Nat} (hd : 3 ≤ d) {m : Nat} {Φ : (Nat → Nat → Int32) → xM} (hΦ : MLaw m Φ) {A : Nat → Int → Int} (hR : RG A) {x1 x2 : Int} (rr : Rg x1 ∧ Rg x2) (hp : (0 ≤ A 0 2 ∧ A 0 2 ≤ 4)) : xev xT d 134 [.ref m, .int (iz x1), .int (iz x2)] (Φ (mI A)) (some (.int (iz (m_settTold A x1 x2)))) (Φ (mI A)) := by
  refine xev_i (D := 2) hd (Nat.le_of_ble_eq_true rfl) (fun d hd => V134_0 hd hΦ hR rr ?_)
  repeat' (first | refine And.intro ?_ ?_ | intro _)
  all_goals (first | assumption | rfl | omega | (refine congrArg (fun z => some (Value.int (iz z))) ?_; first | omega | exact (bI_f (by omega)).symm | exact (bI_t (by omega)).symm | exact bI_i (by omega)) | (refine congrArg (fun z => some (Value.int (iz z))) ?_; (try unfold m_settTold); (repeat' split) <;> first | rfl | omega | (exfalso; omega)))
/-- is there a flaw within: the first n of f, from x on, l threads -/
def isF (f : Int → Int) (x l : Int) : Nat → Bool
  | 0 => false
  | n + 1 => isF f x l n || decide (x ≤ f n ∧ f n < x + l)
theorem isF_s {f : Int → Int} {x l : Int} {n : Nat} : isF f x l (n + 1) = true ↔ isF f x l n = true ∨ (x ≤ f n ∧ f n < x + l) := by simp [isF]
theorem isF_iff {f : Int → Int} {x l : Int} {n : Nat} : isF f x l n = true ↔ ∃ k : Nat, k < n ∧ x ≤ f k ∧ f k < x + l := by
  induction n with
  | zero => simp [isF]
  | succ n ih =>
    rw [isF_s, ih]
    constructor
    · rintro (⟨k, h1, h2⟩ | h)
      · exact ⟨k, by omega, h2⟩
      · exact ⟨n, by omega, h⟩
    · rintro ⟨k, h1, h2⟩
      by_cases e : k = n
      · subst e; exact Or.inr h2
      · exact Or.inl ⟨k, by omega, h2⟩
theorem isF_congr {f g : Int → Int} {x l : Int} {n : Nat} (h : ∀ k : Nat, k < n → f k = g k) : isF f x l n = isF g x l n := by
  induction n with
  | zero => rfl
  | succ n ih => simp only [isF]; rw [ih (fun k hk => h k (by omega)), h n (by omega)]
/-- the sum of the first n -/
def sm (f : Int → Int) : Nat → Int
  | 0 => 0
  | n + 1 => sm f n + f n
theorem sm_congr {f g : Int → Int} {n : Nat} (h : ∀ k : Nat, k < n → f k = g k) : sm f n = sm g n := by
  induction n with
  | zero => rfl
  | succ n ih => simp only [sm]; rw [ih (fun k hk => h k (by omega)), h n (by omega)]
theorem sm_nn {f : Int → Int} {n : Nat} (h : ∀ k : Nat, k < n → 0 ≤ f k) : 0 ≤ sm f n := by
  induction n with
  | zero => exact Int.le_refl 0
  | succ n ih => have := ih (fun k hk => h k (by omega)); have := h n (by omega); simp only [sm]; omega
theorem sm_le {f : Int → Int} {n : Nat} {M : Int} (h : ∀ k : Nat, k < n → f k ≤ M) : sm f n ≤ n * M := by
  induction n with
  | zero => simp [sm]
  | succ n ih =>
    have := ih (fun k hk => h k (by omega)); have := h n (by omega); simp only [sm]
    rw [show ((n + 1 : Nat) : Int) * M = n * M + M by rw [Int.natCast_add, Int.add_mul]; simp]; omega
def m_fl (A : Nat → Int → Int) (b : Int) : Int → Int := fun k => A 10 (10 * b + k)
def m_isF (A : Nat → Int → Int) (b x l : Int) : Bool := isF (m_fl A b) x l (A 9 b).toNat
def m_w (A : Nat → Int → Int) (s : Int) : Int → Int := fun k => A 5 (10 * s + k)
def m_c (A : Nat → Int → Int) (s : Int) : Int → Int := fun k => A 4 (10 * s + k)
def m_centre (A : Nat → Int → Int) (s k : Int) : Int := sm (m_w A s) k.toNat + (m_w A s k - 1).tdiv 2
/-- the colour behind the turn: stripes k, k - 1 .. 1 -/
def cB (w c : Int → Int) : Nat → Int → Int
  | 0, _ => -1
  | k + 1, l => if l < w ((k : Int) + 1) then c ((k : Int) + 1) else cB w c k (l - w ((k : Int) + 1))
def cF (w c : Int → Int) (n : Int) : Nat → Int → Int → Int
  | 0, _, l => cB w c (n - 2).toNat l
  | r + 1, k, l => if l < w k then c k else cF w c n r (k + 1) (l - w k)
def m_col (A : Nat → Int → Int) (s x : Int) : Int := cF (m_w A s) (m_c A s) (A 2 s) (A 2 s).toNat 0 (x.tmod (A 3 s))
theorem V144_0 {d : Nat} (hd : 0 ≤ d) {Q : Option Value → xM → Prop} {m : Nat} {Φ : (Nat → Nat → Int32) → xM} (hΦ : MLaw m Φ) {A : Nat → Int → Int} (hR : RG A) {x1 x2 x3 : Int} (rr : Rg x1 ∧ Rg x2 ∧ Rg x3) (h : wpE (xT 144) (xev xT d) Q (6, [(0, .ref m), (1, .int (iz x1)), (2, .int (iz x2)), (3, .int (iz x3)), (4, .int (iz 0)), (5, .int (iz 0))], [], Φ (mI A))) : wpE (xT 144) (xev xT d) Q (0, [(0, .ref m), (1, .int (iz x1)), (2, .int (iz x2)), (3, .int (iz x3))], [], Φ (mI A)) := by
  refine i_push (n := 0) (cc3 c144_0) zl_0 ?_
  refine p_ist (ls' := [(4, .int (iz 0)), (0, .ref m), (1, .int (iz x1)), (2, .int (iz x2)), (3, .int (iz x3))]) (cc3 c144_1) (by decide) rfl ?_
  refine i_push (n := 0) (cc3 c144_3) zl_0 ?_
  refine p_ist (ls' := [(5, .int (iz 0)), (4, .int (iz 0)), (0, .ref m), (1, .int (iz x1)), (2, .int (iz x2)), (3, .int (iz x3))]) (cc3 c144_4) (by decide) rfl ?_
  exact p_lc (ls' := [(0, .ref m), (1, .int (iz x1)), (2, .int (iz x2)), (3, .int (iz x3)), (4, .int (iz 0)), (5, .int (iz 0))]) c144_6 rfl rfl h
theorem V144_6 {d : Nat} (hd : 0 ≤ d) {Q : Option Value → xM → Prop} {m : Nat} {Φ : (Nat → Nat → Int32) → xM} (hΦ : MLaw m Φ) {A : Nat → Int → Int} (hR : RG A) {x1 x2 x3 x4 x5 : Int} (rr : Rg x1 ∧ Rg x2 ∧ Rg x3 ∧ Rg x4 ∧ Rg x5) (h : (0 ≤ x1 ∧ x1 < 5) ∧ ((((A 9 x1) ≤ x5) → ((x4 = 0 ∨ x4 = 1) ∧ Q (some (.int (iz x4))) (Φ (mI A)))) ∧ (¬ ((A 9 x1) ≤ x5) → (((x4 = 0) → (Rg (10 * x1)) ∧ (Rg ((10 * x1) + x5)) ∧ (0 ≤ ((10 * x1) + x5) ∧ ((10 * x1) + x5) < 50) ∧ ((((A 10 ((10 * x1) + x5)) < x2) → (Rg (x5 + 1)) ∧ wpE (xT 144) (xev xT d) Q (6, [(0, .ref m), (1, .int (iz x1)), (2, .int (iz x2)), (3, .int (iz x3)), (4, .int (iz 0)), (5, .int (iz (x5 + 1)))], [], Φ (mI A))) ∧ (¬ ((A 10 ((10 * x1) + x5)) < x2) → (Rg (x2 + x3)) ∧ ((((x2 + x3) ≤ (A 10 ((10 * x1) + x5))) → (Rg (x5 + 1)) ∧ wpE (xT 144) (xev xT d) Q (6, [(0, .ref m), (1, .int (iz x1)), (2, .int (iz x2)), (3, .int (iz x3)), (4, .int (iz 0)), (5, .int (iz (x5 + 1)))], [], Φ (mI A))) ∧ (¬ ((x2 + x3) ≤ (A 10 ((10 * x1) + x5))) → (Rg (x5 + 1)) ∧ wpE (xT 144) (xev xT d) Q (6, [(0, .ref m), (1, .int (iz x1)), (2, .int (iz x2)), (3, .int (iz x3)), (4, .int (iz 1)), (5, .int (iz (x5 + 1)))], [], Φ (mI A))))))) ∧ (¬ (x4 = 0) → (Rg (x5 + 1)) ∧ wpE (xT 144) (xev xT d) Q (6, [(0, .ref m), (1, .int (iz x1)), (2, .int (iz x2)), (3, .int (iz x3)), (4, .int (iz 1)), (5, .int (iz (x5 + 1)))], [], Φ (mI A))))))) : wpE (xT 144) (xev xT d) Q (6, [(0, .ref m), (1, .int (iz x1)), (2, .int (iz x2)), (3, .int (iz x3)), (4, .int (iz x4)), (5, .int (iz x5))], [], Φ (mI A)) := by
  refine p_ild (cct c144_6 rfl) rfl ?_
  refine p_ald (cc3 c144_8) rfl ?_
  refine pm_getp hΦ (cc3 c144_9) (c := 9) rfl (by decide) ?_
  refine p_ild (cc3 c144_12) rfl ?_
  obtain ⟨g1, h⟩ := h
  refine n_aldi hΦ (c := 9) (n := 5) (ni := 5) (cc3 c144_13) (by decide) rfl rfl rfl (by decide) g1 (v := A 9 x1) rfl ?_
  refine i_icmp (c' := (A 9 x1) ≤ x5) (cc3 c144_14) (iz_le (hR 9 x1) rr.2.2.2.2) (fun c => ?_) (fun c => ?_)
  · have h := h.1 c
    refine p_ild (cc3 c144_69) rfl ?_
    exact i_ri (cc3 c144_71) h.1 h.2
  · have h := h.2 c
    refine p_ild (cc3 c144_17) rfl ?_
    refine i_if (c' := x4 = 0) (cc3 c144_19) (c_eq0 rr.2.2.2.1) (fun c => ?_) (fun c => ?_)
    · have h := h.1 c
      refine p_ald (cc3 c144_22) rfl ?_
      refine pm_getp hΦ (cc3 c144_23) (c := 10) rfl (by decide) ?_
      refine i_push (n := 10) (cc3 c144_26) zl_10 ?_
      refine p_ild (cc3 c144_28) rfl ?_
      obtain ⟨g2, h⟩ := h
      refine (fun _ : Rg (10 * x1) => i_mul (cc3 c144_29) ?_) g2
      refine p_ild (cc3 c144_30) rfl ?_
      obtain ⟨g3, h⟩ := h
      refine (fun _ : Rg ((10 * x1) + x5) => i_add (cc3 c144_32) ?_) g3
      obtain ⟨g4, h⟩ := h
      refine n_aldi hΦ (c := 10) (n := 50) (ni := 50) (cc3 c144_33) (by decide) rfl rfl rfl (by decide) g4 (v := A 10 ((10 * x1) + x5)) rfl ?_
      refine p_ild (cc3 c144_34) rfl ?_
      refine i_icmp (c' := (A 10 ((10 * x1) + x5)) < x2) (cc3 c144_35) (iz_lt (hR 10 ((10 * x1) + x5)) rr.2.1) (fun c => ?_) (fun c => ?_)
      · have h := h.1 c
        refine p_lc (ls' := [(0, .ref m), (1, .int (iz x1)), (2, .int (iz x2)), (3, .int (iz x3)), (5, .int (iz x5))]) c144_60 rfl rfl ?_
        refine i_push (n := 0) (cct c144_60 rfl) zl_0 ?_
        refine p_ist (ls' := [(4, .int (iz 0)), (0, .ref m), (1, .int (iz x1)), (2, .int (iz x2)), (3, .int (iz x3)), (5, .int (iz x5))]) (cct c144_61 rfl) (by decide) rfl ?_
        obtain ⟨g5, h⟩ := h
        refine (fun _ : Rg (x5 + 1) => i_iinc (n := 1) (y := x5 + 1) (ls' := [(5, .int (iz (x5 + 1))), (4, .int (iz 0)), (0, .ref m), (1, .int (iz x1)), (2, .int (iz x2)), (3, .int (iz x3))]) (cc3 c144_63) (by decide) rfl zl_1 (by first | rfl | omega) rfl ?_) g5
        refine p_goto (cc3 c144_66) ?_
        exact p_lc (ls' := [(0, .ref m), (1, .int (iz x1)), (2, .int (iz x2)), (3, .int (iz x3)), (4, .int (iz 0)), (5, .int (iz (x5 + 1)))]) c144_6 rfl rfl h
      · have h := h.2 c
        refine p_ald (cc3 c144_38) rfl ?_
        refine pm_getp hΦ (cc3 c144_39) (c := 10) rfl (by decide) ?_
        refine i_push (n := 10) (cc3 c144_42) zl_10 ?_
        refine p_ild (cc3 c144_44) rfl ?_
        refine (fun _ : Rg (10 * x1) => i_mul (cc3 c144_45) ?_) g2
        refine p_ild (cc3 c144_46) rfl ?_
        refine (fun _ : Rg ((10 * x1) + x5) => i_add (cc3 c144_48) ?_) g3
        refine n_aldi hΦ (c := 10) (n := 50) (ni := 50) (cc3 c144_49) (by decide) rfl rfl rfl (by decide) g4 (v := A 10 ((10 * x1) + x5)) rfl ?_
        refine p_ild (cc3 c144_50) rfl ?_
        refine p_ild (cc3 c144_51) rfl ?_
        obtain ⟨g5, h⟩ := h
        refine (fun _ : Rg (x2 + x3) => i_add (cc3 c144_52) ?_) g5
        refine i_icmp (c' := (x2 + x3) ≤ (A 10 ((10 * x1) + x5))) (cc3 c144_53) (iz_le g5 (hR 10 ((10 * x1) + x5))) (fun c => ?_) (fun c => ?_)
        · have h := h.1 c
          refine p_lc (ls' := [(0, .ref m), (1, .int (iz x1)), (2, .int (iz x2)), (3, .int (iz x3)), (5, .int (iz x5))]) c144_60 rfl rfl ?_
          refine i_push (n := 0) (cct c144_60 rfl) zl_0 ?_
          refine p_ist (ls' := [(4, .int (iz 0)), (0, .ref m), (1, .int (iz x1)), (2, .int (iz x2)), (3, .int (iz x3)), (5, .int (iz x5))]) (cct c144_61 rfl) (by decide) rfl ?_
          obtain ⟨g6, h⟩ := h
          refine (fun _ : Rg (x5 + 1) => i_iinc (n := 1) (y := x5 + 1) (ls' := [(5, .int (iz (x5 + 1))), (4, .int (iz 0)), (0, .ref m), (1, .int (iz x1)), (2, .int (iz x2)), (3, .int (iz x3))]) (cc3 c144_63) (by decide) rfl zl_1 (by first | rfl | omega) rfl ?_) g6
          refine p_goto (cc3 c144_66) ?_
          exact p_lc (ls' := [(0, .ref m), (1, .int (iz x1)), (2, .int (iz x2)), (3, .int (iz x3)), (4, .int (iz 0)), (5, .int (iz (x5 + 1)))]) c144_6 rfl rfl h
        · have h := h.2 c
          refine p_lc (ls' := [(0, .ref m), (1, .int (iz x1)), (2, .int (iz x2)), (3, .int (iz x3)), (5, .int (iz x5))]) c144_56 rfl rfl ?_
          refine i_push (n := 1) (cct c144_56 rfl) zl_1 ?_
          refine p_goto (cc3 c144_57) ?_
          refine p_ist (ls' := [(4, .int (iz 1)), (0, .ref m), (1, .int (iz x1)), (2, .int (iz x2)), (3, .int (iz x3)), (5, .int (iz x5))]) (cct c144_61 rfl) (by decide) rfl ?_
          obtain ⟨g6, h⟩ := h
          refine (fun _ : Rg (x5 + 1) => i_iinc (n := 1) (y := x5 + 1) (ls' := [(5, .int (iz (x5 + 1))), (4, .int (iz 1)), (0, .ref m), (1, .int (iz x1)), (2, .int (iz x2)), (3, .int (iz x3))]) (cc3 c144_63) (by decide) rfl zl_1 (by first | rfl | omega) rfl ?_) g6
          refine p_goto (cc3 c144_66) ?_
          exact p_lc (ls' := [(0, .ref m), (1, .int (iz x1)), (2, .int (iz x2)), (3, .int (iz x3)), (4, .int (iz 1)), (5, .int (iz (x5 + 1)))]) c144_6 rfl rfl h
    · have h := h.2 c
      refine p_lc (ls' := [(0, .ref m), (1, .int (iz x1)), (2, .int (iz x2)), (3, .int (iz x3)), (5, .int (iz x5))]) c144_56 rfl rfl ?_
      refine i_push (n := 1) (cct c144_56 rfl) zl_1 ?_
      refine p_goto (cc3 c144_57) ?_
      refine p_ist (ls' := [(4, .int (iz 1)), (0, .ref m), (1, .int (iz x1)), (2, .int (iz x2)), (3, .int (iz x3)), (5, .int (iz x5))]) (cct c144_61 rfl) (by decide) rfl ?_
      obtain ⟨g2, h⟩ := h
      refine (fun _ : Rg (x5 + 1) => i_iinc (n := 1) (y := x5 + 1) (ls' := [(5, .int (iz (x5 + 1))), (4, .int (iz 1)), (0, .ref m), (1, .int (iz x1)), (2, .int (iz x2)), (3, .int (iz x3))]) (cc3 c144_63) (by decide) rfl zl_1 (by first | rfl | omega) rfl ?_) g2
      refine p_goto (cc3 c144_66) ?_
      exact p_lc (ls' := [(0, .ref m), (1, .int (iz x1)), (2, .int (iz x2)), (3, .int (iz x3)), (4, .int (iz 1)), (5, .int (iz (x5 + 1)))]) c144_6 rfl rfl h

theorem L144 {d : Nat} {Q : Option Value → xM → Prop} {m : Nat} {Φ : (Nat → Nat → Int32) → xM} (hΦ : MLaw m Φ) {A : Nat → Int → Int} (hR : RG A) {b x l : Int} (rr : Rg b ∧ Rg x ∧ Rg l) (hp : (0 ≤ b ∧ b < 5) ∧ (0 ≤ A 9 b ∧ A 9 b ≤ 10) ∧ Rg (x + l))
    (hQ : Q (some (.int (iz (bI (m_isF A b x l = true))))) (Φ (mI A))) : ∀ n k : Nat, (k : Int) + n = A 9 b → wpE (xT 144) (xev xT d) Q (6, [(0, .ref m), (1, .int (iz b)), (2, .int (iz x)), (3, .int (iz l)), (4, .int (iz (bI (isF (m_fl A b) x l k = true)))), (5, .int (iz k))], [], Φ (mI A)) := by
  intro n
  induction n with
  | zero =>
    intro k hk
    refine V144_6 (Nat.zero_le _) hΦ hR (by have := bI_r (c := isF (m_fl A b) x l k = true); omega) ?_
    have e : k = (A 9 b).toNat := by omega
    have hQ' : Q (some (.int (iz (bI (isF (m_fl A b) x l k = true))))) (Φ (mI A)) := by rw [e]; exact hQ
    refine ⟨by omega, fun _ => ⟨bI_01, hQ'⟩, fun h => absurd (show A 9 b ≤ k by omega) h⟩
  | succ n ih =>
    intro k hk
    refine V144_6 (Nat.zero_le _) hΦ hR (by have := bI_r (c := isF (m_fl A b) x l k = true); omega) ?_
    have ih' := ih (k + 1) (by omega)
    rw [show ((k + 1 : Nat) : Int) = (k : Int) + 1 from rfl] at ih'
    have e0 : isF (m_fl A b) x l (k + 1) = true ↔ isF (m_fl A b) x l k = true ∨ (x ≤ A 10 (10 * b + k) ∧ A 10 (10 * b + k) < x + l) := isF_s
    have t1 : (isF (m_fl A b) x l (k + 1) = true) → bI (isF (m_fl A b) x l (k + 1) = true) = 1 := fun h => bI_t h
    have t0 : ¬ (isF (m_fl A b) x l (k + 1) = true) → bI (isF (m_fl A b) x l (k + 1) = true) = 0 := fun h => bI_f h
    simp only [bI_0, Classical.not_not]
    repeat' (first | refine And.intro ?_ ?_ | intro _)
    all_goals (first | omega | (rw [t1 (by rw [e0]; first | (left; assumption) | (right; omega))] at ih'; exact ih') | (rw [t0 (by rw [e0]; rintro (h | h); contradiction; omega)] at ih'; exact ih'))
theorem S144 {d : Nat} (hd : 1 ≤ d) {m : Nat} {Φ : (Nat → Nat → Int32) → xM} (hΦ : MLaw m Φ) {A : Nat → Int → Int} (hR : RG A) {x1 x2 x3 : Int} (rr : Rg x1 ∧ Rg x2 ∧ Rg x3) (hp : (0 ≤ x1 ∧ x1 < 5) ∧ (0 ≤ A 9 x1 ∧ A 9 x1 ≤ 10) ∧ (Rg (x2 + x3))) : xev xT d 144 [.ref m, .int (iz x1), .int (iz x2), .int (iz x3)] (Φ (mI A)) (some (.int (iz (bI (m_isF A x1 x2 x3 = true))))) (Φ (mI A)) := by
  refine xev_i (D := 0) hd (Nat.le_of_ble_eq_true rfl) (fun d hd => V144_0 hd hΦ hR rr ?_)

  exact L144 hΦ hR rr ⟨hp.1, hp.2.1, hp.2.2⟩ ⟨rfl, rfl⟩ (A 9 x1).toNat 0 (by omega)
theorem V137_0 {d : Nat} (hd : 0 ≤ d) {Q : Option Value → xM → Prop} {m : Nat} {Φ : (Nat → Nat → Int32) → xM} (hΦ : MLaw m Φ) {A : Nat → Int → Int} (hR : RG A) {x1 x2 : Int} (rr : Rg x1 ∧ Rg x2) (h : wpE (xT 137) (xev xT d) Q (5, [(0, .ref m), (1, .int (iz x1)), (2, .int (iz x2)), (3, .int (iz 0)), (4, .int (iz 0))], [], Φ (mI A))) : wpE (xT 137) (xev xT d) Q (0, [(0, .ref m), (1, .int (iz x1)), (2, .int (iz x2))], [], Φ (mI A)) := by
  refine i_push (n := 0) (cc3 c137_0) zl_0 ?_
  refine p_ist (ls' := [(3, .int (iz 0)), (0, .ref m), (1, .int (iz x1)), (2, .int (iz x2))]) (cc3 c137_1) (by decide) rfl ?_
  refine i_push (n := 0) (cc3 c137_2) zl_0 ?_
  refine p_ist (ls' := [(4, .int (iz 0)), (3, .int (iz 0)), (0, .ref m), (1, .int (iz x1)), (2, .int (iz x2))]) (cc3 c137_3) (by decide) rfl ?_
  exact p_lc (ls' := [(0, .ref m), (1, .int (iz x1)), (2, .int (iz x2)), (3, .int (iz 0)), (4, .int (iz 0))]) c137_5 rfl rfl h
theorem V137_5 {d : Nat} (hd : 0 ≤ d) {Q : Option Value → xM → Prop} {m : Nat} {Φ : (Nat → Nat → Int32) → xM} (hΦ : MLaw m Φ) {A : Nat → Int → Int} (hR : RG A) {x1 x2 x3 x4 : Int} (rr : Rg x1 ∧ Rg x2 ∧ Rg x3 ∧ Rg x4) (h : (((x2 ≤ x4) → (Rg (10 * x1)) ∧ (Rg ((10 * x1) + x2)) ∧ (0 ≤ ((10 * x1) + x2) ∧ ((10 * x1) + x2) < 50) ∧ (Rg ((A 5 ((10 * x1) + x2)) - 1)) ∧ (Rg (x3 + (((A 5 ((10 * x1) + x2)) - 1).tdiv 2))) ∧ Q (some (.int (iz (x3 + (((A 5 ((10 * x1) + x2)) - 1).tdiv 2))))) (Φ (mI A))) ∧ (¬ (x2 ≤ x4) → (Rg (10 * x1)) ∧ (Rg ((10 * x1) + x4)) ∧ (0 ≤ ((10 * x1) + x4) ∧ ((10 * x1) + x4) < 50) ∧ (Rg (x3 + (A 5 ((10 * x1) + x4)))) ∧ (Rg (x4 + 1)) ∧ wpE (xT 137) (xev xT d) Q (5, [(0, .ref m), (1, .int (iz x1)), (2, .int (iz x2)), (3, .int (iz (x3 + (A 5 ((10 * x1) + x4))))), (4, .int (iz (x4 + 1)))], [], Φ (mI A))))) : wpE (xT 137) (xev xT d) Q (5, [(0, .ref m), (1, .int (iz x1)), (2, .int (iz x2)), (3, .int (iz x3)), (4, .int (iz x4))], [], Φ (mI A)) := by
  refine p_ild (cct c137_5 rfl) rfl ?_
  refine p_ild (cc3 c137_7) rfl ?_
  refine i_icmp (c' := x2 ≤ x4) (cc3 c137_8) (iz_le rr.2.1 rr.2.2.2) (fun c => ?_) (fun c => ?_)
  · have h := h.1 c
    refine p_ild (cc3 c137_32) rfl ?_
    refine p_ald (cc3 c137_33) rfl ?_
    refine pm_getp hΦ (cc3 c137_34) (c := 5) rfl (by decide) ?_
    refine i_push (n := 10) (cc3 c137_37) zl_10 ?_
    refine p_ild (cc3 c137_39) rfl ?_
    obtain ⟨g1, h⟩ := h
    refine (fun _ : Rg (10 * x1) => i_mul (cc3 c137_40) ?_) g1
    refine p_ild (cc3 c137_41) rfl ?_
    obtain ⟨g2, h⟩ := h
    refine (fun _ : Rg ((10 * x1) + x2) => i_add (cc3 c137_42) ?_) g2
    obtain ⟨g3, h⟩ := h
    refine n_aldi hΦ (c := 5) (n := 50) (ni := 50) (cc3 c137_43) (by decide) rfl rfl rfl (by decide) g3 (v := A 5 ((10 * x1) + x2)) rfl ?_
    refine i_push (n := 1) (cc3 c137_44) zl_1 ?_
    obtain ⟨g4, h⟩ := h
    refine (fun _ : Rg ((A 5 ((10 * x1) + x2)) - 1) => i_sub (cc3 c137_45) ?_) g4
    refine i_push (n := 2) (cc3 c137_46) zl_2 ?_
    refine i_div (cc3 c137_47) g4 (by decide) ?_
    obtain ⟨g5, h⟩ := h
    refine (fun _ : Rg (x3 + (((A 5 ((10 * x1) + x2)) - 1).tdiv 2)) => i_add (cc3 c137_48) ?_) g5
    exact p_ri (cc3 c137_49) trivial h
  · have h := h.2 c
    refine p_ild (cc3 c137_11) rfl ?_
    refine p_ald (cc3 c137_12) rfl ?_
    refine pm_getp hΦ (cc3 c137_13) (c := 5) rfl (by decide) ?_
    refine i_push (n := 10) (cc3 c137_16) zl_10 ?_
    refine p_ild (cc3 c137_18) rfl ?_
    obtain ⟨g1, h⟩ := h
    refine (fun _ : Rg (10 * x1) => i_mul (cc3 c137_19) ?_) g1
    refine p_ild (cc3 c137_20) rfl ?_
    obtain ⟨g2, h⟩ := h
    refine (fun _ : Rg ((10 * x1) + x4) => i_add (cc3 c137_22) ?_) g2
    obtain ⟨g3, h⟩ := h
    refine n_aldi hΦ (c := 5) (n := 50) (ni := 50) (cc3 c137_23) (by decide) rfl rfl rfl (by decide) g3 (v := A 5 ((10 * x1) + x4)) rfl ?_
    obtain ⟨g4, h⟩ := h
    refine (fun _ : Rg (x3 + (A 5 ((10 * x1) + x4))) => i_add (cc3 c137_24) ?_) g4
    refine p_ist (ls' := [(3, .int (iz (x3 + (A 5 ((10 * x1) + x4))))), (0, .ref m), (1, .int (iz x1)), (2, .int (iz x2)), (4, .int (iz x4))]) (cc3 c137_25) (by decide) rfl ?_
    obtain ⟨g5, h⟩ := h
    refine (fun _ : Rg (x4 + 1) => i_iinc (n := 1) (y := x4 + 1) (ls' := [(4, .int (iz (x4 + 1))), (3, .int (iz (x3 + (A 5 ((10 * x1) + x4))))), (0, .ref m), (1, .int (iz x1)), (2, .int (iz x2))]) (cc3 c137_26) (by decide) rfl zl_1 (by first | rfl | omega) rfl ?_) g5
    refine p_goto (cc3 c137_29) ?_
    exact p_lc (ls' := [(0, .ref m), (1, .int (iz x1)), (2, .int (iz x2)), (3, .int (iz (x3 + (A 5 ((10 * x1) + x4))))), (4, .int (iz (x4 + 1)))]) c137_5 rfl rfl h

theorem L137 {d : Nat} {Q : Option Value → xM → Prop} {m : Nat} {Φ : (Nat → Nat → Int32) → xM} (hΦ : MLaw m Φ) {A : Nat → Int → Int} (hR : RG A) {s k : Int} (hp : (0 ≤ s ∧ s < 5) ∧ (0 ≤ k ∧ k < 10) ∧ ∀ i : Int, 0 ≤ i → i ≤ k → 0 ≤ A 5 (10 * s + i) ∧ A 5 (10 * s + i) ≤ 999)
    (hQ : Q (some (.int (iz (m_centre A s k)))) (Φ (mI A))) : ∀ n i : Nat, (i : Int) + n = k → wpE (xT 137) (xev xT d) Q (5, [(0, .ref m), (1, .int (iz s)), (2, .int (iz k)), (3, .int (iz (sm (m_w A s) i))), (4, .int (iz i))], [], Φ (mI A)) := by
  intro n
  have hb : ∀ i : Nat, (i : Int) ≤ k → 0 ≤ sm (m_w A s) i ∧ sm (m_w A s) i ≤ i * 999 := fun i hi => ⟨sm_nn fun q hq => (hp.2.2 q (by omega) (by omega)).1, sm_le fun q hq => (hp.2.2 q (by omega) (by omega)).2⟩
  induction n with
  | zero =>
    intro i hi
    have h1 := hb i (by omega)
    have h2 := hp.2.2 k (by omega) (by omega)
    refine V137_5 (Nat.zero_le _) hΦ hR (by omega) ?_
    have e : i = k.toNat := by omega
    have h3 : (A 5 (10 * s + k) - 1).tdiv 2 ≤ 999 ∧ -1 ≤ (A 5 (10 * s + k) - 1).tdiv 2 := by
      by_cases h : 1 ≤ A 5 (10 * s + k)
      · rw [tdiv_pos (by omega)]; omega
      · rw [show A 5 (10 * s + k) - 1 = -1 by omega]; decide
    refine ⟨fun _ => ⟨by omega, by omega, by omega, by omega, by omega, ?_⟩, fun h => absurd (show k ≤ i by omega) h⟩
    rw [e]; exact hQ
  | succ n ih =>
    intro i hi
    have h1 := hb i (by omega)
    have h2 := hp.2.2 i (by omega) (by omega)
    refine V137_5 (Nat.zero_le _) hΦ hR (by omega) ?_
    exact ⟨fun h => absurd h (by omega), fun _ => ⟨by omega, by omega, by omega, by omega, by omega, ih (i + 1) (by omega)⟩⟩
theorem S137 {d : Nat} (hd : 1 ≤ d) {m : Nat} {Φ : (Nat → Nat → Int32) → xM} (hΦ : MLaw m Φ) {A : Nat → Int → Int} (hR : RG A) {x1 x2 : Int} (rr : Rg x1 ∧ Rg x2) (hp : (0 ≤ x1 ∧ x1 < 5) ∧ (0 ≤ x2 ∧ x2 < 10) ∧ (∀ k : Int, 0 ≤ k → k ≤ x2 → 0 ≤ A 5 (10 * x1 + k) ∧ A 5 (10 * x1 + k) ≤ 999)) : xev xT d 137 [.ref m, .int (iz x1), .int (iz x2)] (Φ (mI A)) (some (.int (iz (m_centre A x1 x2)))) (Φ (mI A)) := by
  refine xev_i (D := 0) hd (Nat.le_of_ble_eq_true rfl) (fun d hd => V137_0 hd hΦ hR rr ?_)

  exact L137 hΦ hR hp ⟨rfl, rfl⟩ x2.toNat 0 (by omega)
theorem V139_0 {d : Nat} (hd : 0 ≤ d) {Q : Option Value → xM → Prop} {m : Nat} {Φ : (Nat → Nat → Int32) → xM} (hΦ : MLaw m Φ) {A : Nat → Int → Int} (hR : RG A) {x1 x2 : Int} (rr : Rg x1 ∧ Rg x2) (h : (0 ≤ x1 ∧ x1 < 5) ∧ (0 < (A 3 x1) ∧ (A 3 x1) ≤ 2147483647) ∧ wpE (xT 139) (xev xT d) Q (12, [(0, .ref m), (1, .int (iz x1)), (3, .int (iz (x2.tmod (A 3 x1)))), (4, .int (iz 0))], [], Φ (mI A))) : wpE (xT 139) (xev xT d) Q (0, [(0, .ref m), (1, .int (iz x1)), (2, .int (iz x2))], [], Φ (mI A)) := by
  refine p_ild (cc3 c139_0) rfl ?_
  refine p_ald (cc3 c139_1) rfl ?_
  refine pm_getp hΦ (cc3 c139_2) (c := 3) rfl (by decide) ?_
  refine p_ild (cc3 c139_5) rfl ?_
  obtain ⟨g1, h⟩ := h
  refine n_aldi hΦ (c := 3) (n := 5) (ni := 5) (cc3 c139_6) (by decide) rfl rfl rfl (by decide) g1 (v := A 3 x1) rfl ?_
  obtain ⟨g2, h⟩ := h
  refine i_rem (cc3 c139_7) rr.2 g2 ?_
  refine p_ist (ls' := [(3, .int (iz (x2.tmod (A 3 x1)))), (0, .ref m), (1, .int (iz x1)), (2, .int (iz x2))]) (cc3 c139_8) (by decide) rfl ?_
  refine i_push (n := 0) (cc3 c139_9) zl_0 ?_
  refine p_ist (ls' := [(4, .int (iz 0)), (3, .int (iz (x2.tmod (A 3 x1)))), (0, .ref m), (1, .int (iz x1)), (2, .int (iz x2))]) (cc3 c139_10) (by decide) rfl ?_
  exact p_lc (ls' := [(0, .ref m), (1, .int (iz x1)), (3, .int (iz (x2.tmod (A 3 x1)))), (4, .int (iz 0))]) c139_12 rfl rfl h
theorem V139_12 {d : Nat} (hd : 0 ≤ d) {Q : Option Value → xM → Prop} {m : Nat} {Φ : (Nat → Nat → Int32) → xM} (hΦ : MLaw m Φ) {A : Nat → Int → Int} (hR : RG A) {x1 x3 x4 : Int} (rr : Rg x1 ∧ Rg x3 ∧ Rg x4) (h : (0 ≤ x1 ∧ x1 < 5) ∧ ((((A 2 x1) ≤ x4) → (Rg ((A 2 x1) - 2)) ∧ wpE (xT 139) (xev xT d) Q (83, [(0, .ref m), (1, .int (iz x1)), (3, .int (iz x3)), (4, .int (iz ((A 2 x1) - 2)))], [], Φ (mI A))) ∧ (¬ ((A 2 x1) ≤ x4) → (Rg (10 * x1)) ∧ (Rg ((10 * x1) + x4)) ∧ (0 ≤ ((10 * x1) + x4) ∧ ((10 * x1) + x4) < 50) ∧ ((((A 5 ((10 * x1) + x4)) ≤ x3) → (Rg (x3 - (A 5 ((10 * x1) + x4)))) ∧ (Rg (x4 + 1)) ∧ wpE (xT 139) (xev xT d) Q (12, [(0, .ref m), (1, .int (iz x1)), (3, .int (iz (x3 - (A 5 ((10 * x1) + x4))))), (4, .int (iz (x4 + 1)))], [], Φ (mI A))) ∧ (¬ ((A 5 ((10 * x1) + x4)) ≤ x3) → Q (some (.int (iz (A 4 ((10 * x1) + x4))))) (Φ (mI A))))))) : wpE (xT 139) (xev xT d) Q (12, [(0, .ref m), (1, .int (iz x1)), (3, .int (iz x3)), (4, .int (iz x4))], [], Φ (mI A)) := by
  refine p_ild (cct c139_12 rfl) rfl ?_
  refine p_ald (cc3 c139_14) rfl ?_
  refine pm_getp hΦ (cc3 c139_15) (c := 2) rfl (by decide) ?_
  refine p_ild (cc3 c139_18) rfl ?_
  obtain ⟨g1, h⟩ := h
  refine n_aldi hΦ (c := 2) (n := 5) (ni := 5) (cc3 c139_19) (by decide) rfl rfl rfl (by decide) g1 (v := A 2 x1) rfl ?_
  refine i_icmp (c' := (A 2 x1) ≤ x4) (cc3 c139_20) (iz_le (hR 2 x1) rr.2.2) (fun c => ?_) (fun c => ?_)
  · have h := h.1 c
    refine p_ald (cc3 c139_73) rfl ?_
    refine pm_getp hΦ (cc3 c139_74) (c := 2) rfl (by decide) ?_
    refine p_ild (cc3 c139_77) rfl ?_
    refine n_aldi hΦ (c := 2) (n := 5) (ni := 5) (cc3 c139_78) (by decide) rfl rfl rfl (by decide) g1 (v := A 2 x1) rfl ?_
    refine i_push (n := 2) (cc3 c139_79) zl_2 ?_
    obtain ⟨g2, h⟩ := h
    refine (fun _ : Rg ((A 2 x1) - 2) => i_sub (cc3 c139_80) ?_) g2
    refine p_ist (ls' := [(4, .int (iz ((A 2 x1) - 2))), (0, .ref m), (1, .int (iz x1)), (3, .int (iz x3))]) (cc3 c139_81) (by decide) rfl ?_
    exact p_lc (ls' := [(0, .ref m), (1, .int (iz x1)), (3, .int (iz x3)), (4, .int (iz ((A 2 x1) - 2)))]) c139_83 rfl rfl h
  · have h := h.2 c
    refine p_ild (cc3 c139_23) rfl ?_
    refine p_ald (cc3 c139_24) rfl ?_
    refine pm_getp hΦ (cc3 c139_25) (c := 5) rfl (by decide) ?_
    refine i_push (n := 10) (cc3 c139_28) zl_10 ?_
    refine p_ild (cc3 c139_30) rfl ?_
    obtain ⟨g2, h⟩ := h
    refine (fun _ : Rg (10 * x1) => i_mul (cc3 c139_31) ?_) g2
    refine p_ild (cc3 c139_32) rfl ?_
    obtain ⟨g3, h⟩ := h
    refine (fun _ : Rg ((10 * x1) + x4) => i_add (cc3 c139_34) ?_) g3
    obtain ⟨g4, h⟩ := h
    refine n_aldi hΦ (c := 5) (n := 50) (ni := 50) (cc3 c139_35) (by decide) rfl rfl rfl (by decide) g4 (v := A 5 ((10 * x1) + x4)) rfl ?_
    refine i_icmp (c' := (A 5 ((10 * x1) + x4)) ≤ x3) (cc3 c139_36) (iz_le (hR 5 ((10 * x1) + x4)) rr.2.1) (fun c => ?_) (fun c => ?_)
    · have h := h.1 c
      refine p_ild (cc3 c139_52) rfl ?_
      refine p_ald (cc3 c139_53) rfl ?_
      refine pm_getp hΦ (cc3 c139_54) (c := 5) rfl (by decide) ?_
      refine i_push (n := 10) (cc3 c139_57) zl_10 ?_
      refine p_ild (cc3 c139_59) rfl ?_
      refine (fun _ : Rg (10 * x1) => i_mul (cc3 c139_60) ?_) g2
      refine p_ild (cc3 c139_61) rfl ?_
      refine (fun _ : Rg ((10 * x1) + x4) => i_add (cc3 c139_63) ?_) g3
      refine n_aldi hΦ (c := 5) (n := 50) (ni := 50) (cc3 c139_64) (by decide) rfl rfl rfl (by decide) g4 (v := A 5 ((10 * x1) + x4)) rfl ?_
      obtain ⟨g5, h⟩ := h
      refine (fun _ : Rg (x3 - (A 5 ((10 * x1) + x4))) => i_sub (cc3 c139_65) ?_) g5
      refine p_ist (ls' := [(3, .int (iz (x3 - (A 5 ((10 * x1) + x4))))), (0, .ref m), (1, .int (iz x1)), (4, .int (iz x4))]) (cc3 c139_66) (by decide) rfl ?_
      obtain ⟨g6, h⟩ := h
      refine (fun _ : Rg (x4 + 1) => i_iinc (n := 1) (y := x4 + 1) (ls' := [(4, .int (iz (x4 + 1))), (3, .int (iz (x3 - (A 5 ((10 * x1) + x4))))), (0, .ref m), (1, .int (iz x1))]) (cc3 c139_67) (by decide) rfl zl_1 (by first | rfl | omega) rfl ?_) g6
      refine p_goto (cc3 c139_70) ?_
      exact p_lc (ls' := [(0, .ref m), (1, .int (iz x1)), (3, .int (iz (x3 - (A 5 ((10 * x1) + x4))))), (4, .int (iz (x4 + 1)))]) c139_12 rfl rfl h
    · have h := h.2 c
      refine p_ald (cc3 c139_39) rfl ?_
      refine pm_getp hΦ (cc3 c139_40) (c := 4) rfl (by decide) ?_
      refine i_push (n := 10) (cc3 c139_43) zl_10 ?_
      refine p_ild (cc3 c139_45) rfl ?_
      refine (fun _ : Rg (10 * x1) => i_mul (cc3 c139_46) ?_) g2
      refine p_ild (cc3 c139_47) rfl ?_
      refine (fun _ : Rg ((10 * x1) + x4) => i_add (cc3 c139_49) ?_) g3
      refine n_aldi hΦ (c := 4) (n := 50) (ni := 50) (cc3 c139_50) (by decide) rfl rfl rfl (by decide) g4 (v := A 4 ((10 * x1) + x4)) rfl ?_
      exact p_ri (cc3 c139_51) trivial h
theorem V139_83 {d : Nat} (hd : 0 ≤ d) {Q : Option Value → xM → Prop} {m : Nat} {Φ : (Nat → Nat → Int32) → xM} (hΦ : MLaw m Φ) {A : Nat → Int → Int} (hR : RG A) {x1 x3 x4 : Int} (rr : Rg x1 ∧ Rg x3 ∧ Rg x4) (h : (((x4 ≤ 0) → Q (some (.int (iz (-1)))) (Φ (mI A))) ∧ (¬ (x4 ≤ 0) → (Rg (10 * x1)) ∧ (Rg ((10 * x1) + x4)) ∧ (0 ≤ ((10 * x1) + x4) ∧ ((10 * x1) + x4) < 50) ∧ ((((A 5 ((10 * x1) + x4)) ≤ x3) → (Rg (x3 - (A 5 ((10 * x1) + x4)))) ∧ (Rg (x4 - 1)) ∧ wpE (xT 139) (xev xT d) Q (83, [(0, .ref m), (1, .int (iz x1)), (3, .int (iz (x3 - (A 5 ((10 * x1) + x4))))), (4, .int (iz (x4 - 1)))], [], Φ (mI A))) ∧ (¬ ((A 5 ((10 * x1) + x4)) ≤ x3) → Q (some (.int (iz (A 4 ((10 * x1) + x4))))) (Φ (mI A))))))) : wpE (xT 139) (xev xT d) Q (83, [(0, .ref m), (1, .int (iz x1)), (3, .int (iz x3)), (4, .int (iz x4))], [], Φ (mI A)) := by
  refine p_ild (cct c139_83 rfl) rfl ?_
  refine i_if (c' := x4 ≤ 0) (cc3 c139_85) (c_le0 rr.2.2) (fun c => ?_) (fun c => ?_)
  · have h := h.1 c
    refine i_push (n := (-1)) (cc3 c139_138) zl_m1 ?_
    exact p_ri (cc3 c139_139) trivial h
  · have h := h.2 c
    refine p_ild (cc3 c139_88) rfl ?_
    refine p_ald (cc3 c139_89) rfl ?_
    refine pm_getp hΦ (cc3 c139_90) (c := 5) rfl (by decide) ?_
    refine i_push (n := 10) (cc3 c139_93) zl_10 ?_
    refine p_ild (cc3 c139_95) rfl ?_
    obtain ⟨g1, h⟩ := h
    refine (fun _ : Rg (10 * x1) => i_mul (cc3 c139_96) ?_) g1
    refine p_ild (cc3 c139_97) rfl ?_
    obtain ⟨g2, h⟩ := h
    refine (fun _ : Rg ((10 * x1) + x4) => i_add (cc3 c139_99) ?_) g2
    obtain ⟨g3, h⟩ := h
    refine n_aldi hΦ (c := 5) (n := 50) (ni := 50) (cc3 c139_100) (by decide) rfl rfl rfl (by decide) g3 (v := A 5 ((10 * x1) + x4)) rfl ?_
    refine i_icmp (c' := (A 5 ((10 * x1) + x4)) ≤ x3) (cc3 c139_101) (iz_le (hR 5 ((10 * x1) + x4)) rr.2.1) (fun c => ?_) (fun c => ?_)
    · have h := h.1 c
      refine p_ild (cc3 c139_117) rfl ?_
      refine p_ald (cc3 c139_118) rfl ?_
      refine pm_getp hΦ (cc3 c139_119) (c := 5) rfl (by decide) ?_
      refine i_push (n := 10) (cc3 c139_122) zl_10 ?_
      refine p_ild (cc3 c139_124) rfl ?_
      refine (fun _ : Rg (10 * x1) => i_mul (cc3 c139_125) ?_) g1
      refine p_ild (cc3 c139_126) rfl ?_
      refine (fun _ : Rg ((10 * x1) + x4) => i_add (cc3 c139_128) ?_) g2
      refine n_aldi hΦ (c := 5) (n := 50) (ni := 50) (cc3 c139_129) (by decide) rfl rfl rfl (by decide) g3 (v := A 5 ((10 * x1) + x4)) rfl ?_
      obtain ⟨g4, h⟩ := h
      refine (fun _ : Rg (x3 - (A 5 ((10 * x1) + x4))) => i_sub (cc3 c139_130) ?_) g4
      refine p_ist (ls' := [(3, .int (iz (x3 - (A 5 ((10 * x1) + x4))))), (0, .ref m), (1, .int (iz x1)), (4, .int (iz x4))]) (cc3 c139_131) (by decide) rfl ?_
      obtain ⟨g5, h⟩ := h
      refine (fun _ : Rg (x4 - 1) => i_iinc (n := (-1)) (y := x4 - 1) (ls' := [(4, .int (iz (x4 - 1))), (3, .int (iz (x3 - (A 5 ((10 * x1) + x4))))), (0, .ref m), (1, .int (iz x1))]) (cc3 c139_132) (by decide) rfl zl_m1 (by first | rfl | omega) rfl ?_) g5
      refine p_goto (cc3 c139_135) ?_
      exact p_lc (ls' := [(0, .ref m), (1, .int (iz x1)), (3, .int (iz (x3 - (A 5 ((10 * x1) + x4))))), (4, .int (iz (x4 - 1)))]) c139_83 rfl rfl h
    · have h := h.2 c
      refine p_ald (cc3 c139_104) rfl ?_
      refine pm_getp hΦ (cc3 c139_105) (c := 4) rfl (by decide) ?_
      refine i_push (n := 10) (cc3 c139_108) zl_10 ?_
      refine p_ild (cc3 c139_110) rfl ?_
      refine (fun _ : Rg (10 * x1) => i_mul (cc3 c139_111) ?_) g1
      refine p_ild (cc3 c139_112) rfl ?_
      refine (fun _ : Rg ((10 * x1) + x4) => i_add (cc3 c139_114) ?_) g2
      refine n_aldi hΦ (c := 4) (n := 50) (ni := 50) (cc3 c139_115) (by decide) rfl rfl rfl (by decide) g3 (v := A 4 ((10 * x1) + x4)) rfl ?_
      exact p_ri (cc3 c139_116) trivial h

theorem L139b {d : Nat} {Q : Option Value → xM → Prop} {m : Nat} {Φ : (Nat → Nat → Int32) → xM} (hΦ : MLaw m Φ) {A : Nat → Int → Int} (hR : RG A) {s : Int} (hp : (0 ≤ s ∧ s < 5) ∧ (0 ≤ A 2 s ∧ A 2 s ≤ 10) ∧ ∀ i : Int, 0 ≤ i → i < A 2 s → 0 ≤ A 5 (10 * s + i)) :
    ∀ (k : Nat) (l : Int), (k : Int) ≤ A 2 s - 2 ∨ k = 0 → 0 ≤ l → l ≤ 2147483647 → Q (some (.int (iz (cB (m_w A s) (m_c A s) k l)))) (Φ (mI A)) → ∀ x : Int, (x = k ∨ x ≤ 0 ∧ -2147483648 ≤ x ∧ k = 0) → wpE (xT 139) (xev xT d) Q (83, [(0, .ref m), (1, .int (iz s)), (3, .int (iz l)), (4, .int (iz x))], [], Φ (mI A)) := by
  intro k
  induction k with
  | zero =>
    intro l hk hl hl2 hQ x hx
    refine V139_83 (Nat.zero_le _) hΦ hR (by omega) ?_
    exact ⟨fun _ => hQ, fun h => absurd (show x ≤ 0 by omega) h⟩
  | succ k ih =>
    intro l hk hl hl2 hQ x hx
    have h2 := hp.2.2 (k + 1) (by omega) (by omega)
    have hx : x = (k : Int) + 1 := by omega
    subst hx
    refine V139_83 (Nat.zero_le _) hΦ hR (by omega) ?_
    refine ⟨fun h => absurd h (by omega), fun _ => ⟨by omega, by omega, by omega, fun h => ⟨by omega, by omega, ?_⟩, fun h => ?_⟩⟩
    · refine ih _ (by omega) (by omega) (by omega) ?_ _ (by omega)
      unfold cB at hQ
      rw [if_neg (by show ¬ l < A 5 (10 * s + ((k : Int) + 1)); omega)] at hQ
      exact hQ
    · unfold cB at hQ
      rw [if_pos (by show l < A 5 (10 * s + ((k : Int) + 1)); omega)] at hQ
      exact hQ
theorem L139 {d : Nat} {Q : Option Value → xM → Prop} {m : Nat} {Φ : (Nat → Nat → Int32) → xM} (hΦ : MLaw m Φ) {A : Nat → Int → Int} (hR : RG A) {s : Int} (hp : (0 ≤ s ∧ s < 5) ∧ (0 ≤ A 2 s ∧ A 2 s ≤ 10) ∧ ∀ i : Int, 0 ≤ i → i < A 2 s → 0 ≤ A 5 (10 * s + i)) :
    ∀ (n : Nat) (k l : Int), 0 ≤ k → k + n = A 2 s → 0 ≤ l → l ≤ 2147483647 → Q (some (.int (iz (cF (m_w A s) (m_c A s) (A 2 s) n k l)))) (Φ (mI A)) → wpE (xT 139) (xev xT d) Q (12, [(0, .ref m), (1, .int (iz s)), (3, .int (iz l)), (4, .int (iz k))], [], Φ (mI A)) := by
  intro n
  induction n with
  | zero =>
    intro k l h0 hk hl hl2 hQ
    refine V139_12 (Nat.zero_le _) hΦ hR (by omega) ?_
    refine ⟨by omega, fun _ => ⟨by omega, ?_⟩, fun h => absurd (show A 2 s ≤ k by omega) h⟩
    exact L139b hΦ hR hp (A 2 s - 2).toNat l (by omega) hl hl2 hQ _ (by omega)
  | succ n ih =>
    intro k l h0 hk hl hl2 hQ
    have h2 := hp.2.2 k (by omega) (by omega)
    refine V139_12 (Nat.zero_le _) hΦ hR (by omega) ?_
    refine ⟨by omega, fun h => absurd h (by omega), fun _ => ⟨by omega, by omega, by omega, fun h => ⟨by omega, by omega, ?_⟩, fun h => ?_⟩⟩
    · refine ih _ _ (by omega) (by omega) (by omega) (by omega) ?_
      unfold cF at hQ
      rw [if_neg (by show ¬ l < A 5 (10 * s + k); omega)] at hQ
      exact hQ
    · unfold cF at hQ
      rw [if_pos (by show l < A 5 (10 * s + k); omega)] at hQ
      exact hQ
theorem S139 {d : Nat} (hd : 1 ≤ d) {m : Nat} {Φ : (Nat → Nat → Int32) → xM} (hΦ : MLaw m Φ) {A : Nat → Int → Int} (hR : RG A) {x1 x2 : Int} (rr : Rg x1 ∧ Rg x2) (hp : (0 ≤ x1 ∧ x1 < 5) ∧ (0 < A 3 x1) ∧ (0 ≤ A 2 x1 ∧ A 2 x1 ≤ 10) ∧ (0 ≤ x2) ∧ (∀ k : Int, 0 ≤ k → k < A 2 x1 → 0 ≤ A 5 (10 * x1 + k))) : xev xT d 139 [.ref m, .int (iz x1), .int (iz x2)] (Φ (mI A)) (some (.int (iz (m_col A x1 x2)))) (Φ (mI A)) := by
  refine xev_i (D := 0) hd (Nat.le_of_ble_eq_true rfl) (fun d hd => V139_0 hd hΦ hR rr ?_)

  have h1 := tmod_pos (x := x2) (y := A 3 x1) hp.2.2.2.1
  have h2 := Int.emod_nonneg x2 (b := A 3 x1) (by omega)
  have h3 := rg_tmod rr.2 hp.2.1
  have h4 := hR 3 x1
  exact ⟨hp.1, ⟨hp.2.1, h4.2⟩, L139 hΦ hR ⟨hp.1, hp.2.2.1, hp.2.2.2.2⟩ _ _ _ (Int.le_refl 0) (by omega) (by omega) h3.2 ⟨rfl, rfl⟩⟩
