theorem gM_le {f : Int → Int} : ∀ m : Nat, gM f m ≤ 1000000
  | 0 => Int.le_refl _
  | m + 1 => by
    have := gM_le (f := f) m
    unfold gM; split <;> omega
def BaseC (A : Nat → Int → Int) (k s : Int) : Prop := (∀ p : Int, 0 ≤ p → p < A 15 k → 0 ≤ A 29 p ∧ A 29 p ≤ 60000) ∧ ∀ p : Int, 0 ≤ p → p + 1 < A 15 k → A 29 (p + 1) = A 29 p + yfx A k (A 3 s) p
theorem fixed_y {A : Nat → Int → Int} {k p : Int} : m_fixed A k p = yfx A k (A 0 32) p := rfl
/-- one step's choice -/
def yf (A : Nat → Int → Int) (k b s p x : Int) : Int → Int := fun m => if A 17 k < yst A k (A 3 s) p m then yG A k b s (A 15 k - 2 - p).toNat (x + yst A k (A 3 s) p m) else 1000000
theorem yG_s {A : Nat → Int → Int} {k b s p x : Int} (h : 0 ≤ p ∧ p ≤ A 15 k - 2) : yG A k b s (A 15 k - 1 - p).toNat x = if A 8 b < x + A 17 k then 1000000 else if m_isF A b x (A 17 k) = true then 1000000 else gM (yf A k b s p x) 4 := by
  have e : (A 15 k - 1 - p).toNat = (A 15 k - 2 - p).toNat + 1 := by omega
  have e2 : A 15 k - 2 - ((A 15 k - 2 - p).toNat : Int) = p := by omega
  unfold yG
  rw [e]
  show (if A 8 b < x + A 17 k then 1000000 else if m_isF A b x (A 17 k) = true then 1000000 else gM (fun m => if A 17 k < yst A k (A 3 s) (A 15 k - 2 - ((A 15 k - 2 - p).toNat : Int)) m then yG A k b s (A 15 k - 2 - p).toNat (x + yst A k (A 3 s) (A 15 k - 2 - ((A 15 k - 2 - p).toNat : Int)) m) else 1000000) 4) = _
  rw [e2]
  rfl
theorem yG_0 {A : Nat → Int → Int} {k b s x : Int} : yG A k b s 0 x = if A 8 b < x + A 17 k then 1000000 else if m_isF A b x (A 17 k) = true then 1000000 else yE A k b s x := rfl
theorem yf_c {A A' : Nat → Int → Int} (h : ∀ c ∈ [3, 5, 8, 9, 10, 11, 15, 17, 18], A' c = A c) : yf A' = yf A := by
  funext k b s p x m; unfold yf; rw [yG_c h, yst_c (h 11 (by decide)) (h 15 (by decide)) (h 17 (by decide)), h 3 (by decide), h 15 (by decide), h 17 (by decide)]
/-- what stands in the rows of 'best' -/
def BestC (A : Nat → Int → Int) (k b s p : Int) (B : Int → Int) : Prop := ∀ o : Int, 0 ≤ o → o ≤ 8 * p → B (200 * p + o) = yG A k b s (A 15 k - 1 - p).toNat (A 29 p + o * A 3 s)
theorem V154_0 {d : Nat} (hd : 2 ≤ d) {Q : Option Value → xM → Prop} {m : Nat} {Φ : (Nat → Nat → Int32) → xM} (hΦ : MLaw m Φ) {A : Nat → Int → Int} (hR : RG A) {x1 x2 x3 : Int} (rr : Rg x1 ∧ Rg x2 ∧ Rg x3) (h : (0 ≤ x1 ∧ x1 < 8) ∧ (Rg ((A 15 x1) - 1)) ∧ wpE (xT 154) (xev xT d) Q (14, [(0, .ref m), (1, .int (iz x1)), (2, .int (iz x2)), (3, .int (iz x3)), (4, .int (iz (A 15 x1))), (5, .int (iz ((A 15 x1) - 1)))], [], Φ (mI A))) : wpE (xT 154) (xev xT d) Q (0, [(0, .ref m), (1, .int (iz x1)), (2, .int (iz x2)), (3, .int (iz x3))], [], Φ (mI A)) := by
  refine p_ald (cc3 c154_0) rfl ?_
  refine pm_getp hΦ (cc3 c154_1) (c := 15) rfl (by decide) ?_
  refine p_ild (cc3 c154_4) rfl ?_
  obtain ⟨g1, h⟩ := h
  refine n_aldi hΦ (c := 15) (n := 8) (ni := 8) (cc3 c154_5) (by decide) rfl rfl rfl (by decide) g1 (v := A 15 x1) rfl ?_
  refine p_ist (ls' := [(4, .int (iz (A 15 x1))), (0, .ref m), (1, .int (iz x1)), (2, .int (iz x2)), (3, .int (iz x3))]) (cc3 c154_6) (by decide) rfl ?_
  refine p_ild (cc3 c154_8) rfl ?_
  refine i_push (n := 1) (cc3 c154_10) zl_1 ?_
  obtain ⟨g2, h⟩ := h
  refine (fun _ : Rg ((A 15 x1) - 1) => i_sub (cc3 c154_11) ?_) g2
  refine p_ist (ls' := [(5, .int (iz ((A 15 x1) - 1))), (4, .int (iz (A 15 x1))), (0, .ref m), (1, .int (iz x1)), (2, .int (iz x2)), (3, .int (iz x3))]) (cc3 c154_12) (by decide) rfl ?_
  exact p_lc (ls' := [(0, .ref m), (1, .int (iz x1)), (2, .int (iz x2)), (3, .int (iz x3)), (4, .int (iz (A 15 x1))), (5, .int (iz ((A 15 x1) - 1)))]) c154_14 rfl rfl h
theorem V154_14 {d : Nat} (hd : 2 ≤ d) {Q : Option Value → xM → Prop} {m : Nat} {Φ : (Nat → Nat → Int32) → xM} (hΦ : MLaw m Φ) {A : Nat → Int → Int} (hR : RG A) {x1 x2 x3 x4 x5 : Int} (rr : Rg x1 ∧ Rg x2 ∧ Rg x3 ∧ Rg x4 ∧ Rg x5) (h : (((x5 < 0) → Q none (Φ (mI A))) ∧ (¬ (x5 < 0) → wpE (xT 154) (xev xT d) Q (22, [(0, .ref m), (1, .int (iz x1)), (2, .int (iz x2)), (3, .int (iz x3)), (4, .int (iz x4)), (5, .int (iz x5)), (6, .int (iz 0))], [], Φ (mI A))))) : wpE (xT 154) (xev xT d) Q (14, [(0, .ref m), (1, .int (iz x1)), (2, .int (iz x2)), (3, .int (iz x3)), (4, .int (iz x4)), (5, .int (iz x5))], [], Φ (mI A)) := by
  refine p_ild (cct c154_14 rfl) rfl ?_
  refine i_if (c' := x5 < 0) (cc3 c154_16) (c_lt0 rr.2.2.2.2) (fun c => ?_) (fun c => ?_)
  · have h := h.1 c
    exact p_rv (cc3 c154_246) h
  · have h := h.2 c
    refine i_push (n := 0) (cc3 c154_19) zl_0 ?_
    refine p_ist (ls' := [(6, .int (iz 0)), (0, .ref m), (1, .int (iz x1)), (2, .int (iz x2)), (3, .int (iz x3)), (4, .int (iz x4)), (5, .int (iz x5))]) (cc3 c154_20) (by decide) rfl ?_
    exact p_lc (ls' := [(0, .ref m), (1, .int (iz x1)), (2, .int (iz x2)), (3, .int (iz x3)), (4, .int (iz x4)), (5, .int (iz x5)), (6, .int (iz 0))]) c154_22 rfl rfl h
theorem V154_22 {d : Nat} (hd : 2 ≤ d) {Q : Option Value → xM → Prop} {m : Nat} {Φ : (Nat → Nat → Int32) → xM} (hΦ : MLaw m Φ) {A : Nat → Int → Int} (hR : RG A) {x1 x2 x3 x4 x5 x6 : Int} (rr : Rg x1 ∧ Rg x2 ∧ Rg x3 ∧ Rg x4 ∧ Rg x5 ∧ Rg x6) (h : (((200 ≤ x6) → (Rg (x5 - 1)) ∧ wpE (xT 154) (xev xT d) Q (14, [(0, .ref m), (1, .int (iz x1)), (2, .int (iz x2)), (3, .int (iz x3)), (4, .int (iz x4)), (5, .int (iz (x5 - 1)))], [], Φ (mI A))) ∧ (¬ (200 ≤ x6) → (0 ≤ x5 ∧ x5 < 24) ∧ (Rg (x6 * (A 0 32))) ∧ (Rg ((A 29 x5) + (x6 * (A 0 32)))) ∧ (Rg (200 * x5)) ∧ (Rg ((200 * x5) + x6)) ∧ (0 ≤ ((200 * x5) + x6) ∧ ((200 * x5) + x6) < 4800) ∧ (0 ≤ x1 ∧ x1 < 8) ∧ (Rg (((A 29 x5) + (x6 * (A 0 32))) + (A 17 x1))) ∧ (0 ≤ x2 ∧ x2 < 5) ∧ ((((A 8 x2) < (((A 29 x5) + (x6 * (A 0 32))) + (A 17 x1))) → (Rg (x6 + 1)) ∧ wpE (xT 154) (xev xT d) Q (22, [(0, .ref m), (1, .int (iz x1)), (2, .int (iz x2)), (3, .int (iz x3)), (4, .int (iz x4)), (5, .int (iz x5)), (6, .int (iz (x6 + 1)))], [], Φ (mI (UA A 30 ((200 * x5) + x6) 1000000)))) ∧ (¬ ((A 8 x2) < (((A 29 x5) + (x6 * (A 0 32))) + (A 17 x1))) → (0 ≤ A 9 x2 ∧ A 9 x2 ≤ 10) ∧ ((¬ (m_isF A x2 ((A 29 x5) + (x6 * (A 0 32))) (A 17 x1) = true) → (Rg (x4 - 1)) ∧ (((x5 = (x4 - 1)) → (LayC A x1 x2 x3) ∧ (0 ≤ ((A 29 x5) + (x6 * (A 0 32))) ∧ ((A 29 x5) + (x6 * (A 0 32))) ≤ 200000) ∧ (∀ (r_1 : Int) (A_1 : Nat → Int → Int), Rg r_1 → RG A_1 → (r_1 = yE (UA A 30 ((200 * x5) + x6) 1000000) x1 x2 x3 ((A 29 x5) + (x6 * (A 0 32))) ∧ Fr [] [36] (UA A 30 ((200 * x5) + x6) 1000000) A_1) → (Rg (x6 + 1)) ∧ wpE (xT 154) (xev xT d) Q (22, [(0, .ref m), (1, .int (iz x1)), (2, .int (iz x2)), (3, .int (iz x3)), (4, .int (iz x4)), (5, .int (iz x5)), (6, .int (iz (x6 + 1)))], [], Φ (mI (UA A_1 30 ((200 * x5) + x6) r_1))))) ∧ (¬ (x5 = (x4 - 1)) → wpE (xT 154) (xev xT d) Q (138, [(0, .ref m), (1, .int (iz x1)), (2, .int (iz x2)), (3, .int (iz x3)), (4, .int (iz x4)), (5, .int (iz x5)), (6, .int (iz x6)), (8, .int (iz 1))], [], Φ (mI (UA A 30 ((200 * x5) + x6) 1000000)))))) ∧ ((m_isF A x2 ((A 29 x5) + (x6 * (A 0 32))) (A 17 x1) = true) → (Rg (x6 + 1)) ∧ wpE (xT 154) (xev xT d) Q (22, [(0, .ref m), (1, .int (iz x1)), (2, .int (iz x2)), (3, .int (iz x3)), (4, .int (iz x4)), (5, .int (iz x5)), (6, .int (iz (x6 + 1)))], [], Φ (mI (UA A 30 ((200 * x5) + x6) 1000000)))))))))) : wpE (xT 154) (xev xT d) Q (22, [(0, .ref m), (1, .int (iz x1)), (2, .int (iz x2)), (3, .int (iz x3)), (4, .int (iz x4)), (5, .int (iz x5)), (6, .int (iz x6))], [], Φ (mI A)) := by
  refine p_ild (cct c154_22 rfl) rfl ?_
  refine i_push (n := 200) (cc3 c154_24) zl_200 ?_
  refine i_icmp (c' := 200 ≤ x6) (cc3 c154_27) (iz_le (by decide) rr.2.2.2.2.2) (fun c => ?_) (fun c => ?_)
  · have h := h.1 c
    obtain ⟨g1, h⟩ := h
    refine (fun _ : Rg (x5 - 1) => i_iinc (n := (-1)) (y := x5 - 1) (ls' := [(5, .int (iz (x5 - 1))), (0, .ref m), (1, .int (iz x1)), (2, .int (iz x2)), (3, .int (iz x3)), (4, .int (iz x4)), (6, .int (iz x6))]) (cc3 c154_240) (by decide) rfl zl_m1 (by first | rfl | omega) rfl ?_) g1
    refine p_goto (cc3 c154_243) ?_
    exact p_lc (ls' := [(0, .ref m), (1, .int (iz x1)), (2, .int (iz x2)), (3, .int (iz x3)), (4, .int (iz x4)), (5, .int (iz (x5 - 1)))]) c154_14 rfl rfl h
  · have h := h.2 c
    refine p_ald (cc3 c154_30) rfl ?_
    refine pm_getp hΦ (cc3 c154_31) (c := 29) rfl (by decide) ?_
    refine p_ild (cc3 c154_34) rfl ?_
    obtain ⟨g1, h⟩ := h
    refine n_aldi hΦ (c := 29) (n := 24) (ni := 24) (cc3 c154_36) (by decide) rfl rfl rfl (by decide) g1 (v := A 29 x5) rfl ?_
    refine p_ild (cc3 c154_37) rfl ?_
    refine p_ald (cc3 c154_39) rfl ?_
    refine n_geti hΦ (v := A 0 32) (cc3 c154_40) (ji := 32) rfl rfl ?_
    obtain ⟨g2, h⟩ := h
    refine (fun _ : Rg (x6 * (A 0 32)) => i_mul (cc3 c154_43) ?_) g2
    obtain ⟨g3, h⟩ := h
    refine (fun _ : Rg ((A 29 x5) + (x6 * (A 0 32))) => i_add (cc3 c154_44) ?_) g3
    refine p_ist (ls' := [(7, .int (iz ((A 29 x5) + (x6 * (A 0 32))))), (0, .ref m), (1, .int (iz x1)), (2, .int (iz x2)), (3, .int (iz x3)), (4, .int (iz x4)), (5, .int (iz x5)), (6, .int (iz x6))]) (cc3 c154_45) (by decide) rfl ?_
    refine p_ald (cc3 c154_47) rfl ?_
    refine pm_getp hΦ (cc3 c154_48) (c := 30) rfl (by decide) ?_
    refine i_push (n := 200) (cc3 c154_51) zl_200 ?_
    refine p_ild (cc3 c154_54) rfl ?_
    obtain ⟨g4, h⟩ := h
    refine (fun _ : Rg (200 * x5) => i_mul (cc3 c154_56) ?_) g4
    refine p_ild (cc3 c154_57) rfl ?_
    obtain ⟨g5, h⟩ := h
    refine (fun _ : Rg ((200 * x5) + x6) => i_add (cc3 c154_59) ?_) g5
    refine i_push (n := 1000000) (cc3 c154_60) zl_1000000 ?_
    obtain ⟨g6, h⟩ := h
    refine id (α := Rg 1000000 → _) (fun _ => ?_) (by decide); refine n_asti hΦ (c := 30) (n := 4800) (ni := 4800) (hv := rfl) (cc3 c154_62) (by decide) rfl rfl rfl (by decide) g6 ?_
    refine p_ild (cc3 c154_63) rfl ?_
    refine p_ald (cc3 c154_65) rfl ?_
    refine pm_getp hΦ (cc3 c154_66) (c := 17) rfl (by decide) ?_
    refine p_ild (cc3 c154_69) rfl ?_
    obtain ⟨g7, h⟩ := h
    refine n_aldi hΦ (c := 17) (n := 8) (ni := 8) (cc3 c154_70) (by decide) rfl rfl rfl (by decide) g7 (v := A 17 x1) (by first | rfl | exact UA_eq | simp [UA]) ?_
    obtain ⟨g8, h⟩ := h
    refine (fun _ : Rg (((A 29 x5) + (x6 * (A 0 32))) + (A 17 x1)) => i_add (cc3 c154_71) ?_) g8
    refine p_ald (cc3 c154_72) rfl ?_
    refine pm_getp hΦ (cc3 c154_73) (c := 8) rfl (by decide) ?_
    refine p_ild (cc3 c154_76) rfl ?_
    obtain ⟨g9, h⟩ := h
    refine n_aldi hΦ (c := 8) (n := 5) (ni := 5) (cc3 c154_77) (by decide) rfl rfl rfl (by decide) g9 (v := A 8 x2) (by first | rfl | exact UA_eq | simp [UA]) ?_
    refine i_icmp (c' := (A 8 x2) < (((A 29 x5) + (x6 * (A 0 32))) + (A 17 x1))) (cc3 c154_78) (iz_lt (hR 8 x2) g8) (fun c => ?_) (fun c => ?_)
    · have h := h.1 c
      refine p_lc (ls' := [(0, .ref m), (1, .int (iz x1)), (2, .int (iz x2)), (3, .int (iz x3)), (4, .int (iz x4)), (5, .int (iz x5)), (6, .int (iz x6))]) c154_234 rfl rfl ?_
      obtain ⟨g10, h⟩ := h
      refine (fun _ : Rg (x6 + 1) => i_iinc (n := 1) (y := x6 + 1) (ls' := [(6, .int (iz (x6 + 1))), (0, .ref m), (1, .int (iz x1)), (2, .int (iz x2)), (3, .int (iz x3)), (4, .int (iz x4)), (5, .int (iz x5))]) (cct c154_234 rfl) (by decide) rfl zl_1 (by first | rfl | omega) rfl ?_) g10
      refine p_goto (cc3 c154_237) ?_
      exact p_lc (ls' := [(0, .ref m), (1, .int (iz x1)), (2, .int (iz x2)), (3, .int (iz x3)), (4, .int (iz x4)), (5, .int (iz x5)), (6, .int (iz (x6 + 1)))]) c154_22 rfl rfl h
    · have h := h.2 c
      refine p_ald (cc3 c154_81) rfl ?_
      refine p_ild (cc3 c154_82) rfl ?_
      refine p_ild (cc3 c154_83) rfl ?_
      refine p_ald (cc3 c154_85) rfl ?_
      refine pm_getp hΦ (cc3 c154_86) (c := 17) rfl (by decide) ?_
      refine p_ild (cc3 c154_89) rfl ?_
      refine n_aldi hΦ (c := 17) (n := 8) (ni := 8) (cc3 c154_90) (by decide) rfl rfl rfl (by decide) g7 (v := A 17 x1) (by first | rfl | exact UA_eq | simp [UA]) ?_
      obtain ⟨g10, h⟩ := h
      refine p_callV (cc3 c154_91) (Nat.le_of_ble_eq_true rfl) rfl rfl (Nat.le_of_ble_eq_true rfl) (ml_kd hΦ) (S144 (Nat.le_trans (by decide) hd) hΦ (rg_UA hR (by decide)) ⟨rr.2.1, g3, (hR 17 x1)⟩ ⟨g9, g10, g8⟩) ?_
      refine i_ifB (cc3 c154_94) (fun c => ?_) (fun c => ?_)
      · have h := h.1 c
        refine p_ild (cc3 c154_100) rfl ?_
        refine p_ild (cc3 c154_102) rfl ?_
        refine i_push (n := 1) (cc3 c154_104) zl_1 ?_
        obtain ⟨g11, h⟩ := h
        refine (fun _ : Rg (x4 - 1) => i_sub (cc3 c154_105) ?_) g11
        refine i_icmp (c' := x5 = (x4 - 1)) (cc3 c154_106) (iz_inj rr.2.2.2.2.1 g11) (fun c => ?_) (fun c => ?_)
        · have h := h.1 c
          refine p_ald (cc3 c154_109) rfl ?_
          refine pm_getp hΦ (cc3 c154_110) (c := 30) rfl (by decide) ?_
          refine i_push (n := 200) (cc3 c154_113) zl_200 ?_
          refine p_ild (cc3 c154_116) rfl ?_
          refine (fun _ : Rg (200 * x5) => i_mul (cc3 c154_118) ?_) g4
          refine p_ild (cc3 c154_119) rfl ?_
          refine (fun _ : Rg ((200 * x5) + x6) => i_add (cc3 c154_121) ?_) g5
          refine p_ald (cc3 c154_122) rfl ?_
          refine p_ild (cc3 c154_123) rfl ?_
          refine p_ild (cc3 c154_124) rfl ?_
          refine p_ild (cc3 c154_125) rfl ?_
          refine p_ild (cc3 c154_126) rfl ?_
          obtain ⟨g12, h⟩ := h
          obtain ⟨g13, h⟩ := h
          obtain ⟨r_1, A_1, he, hr_1, hR_1, hp_1⟩ := S155 (A := UA A 30 ((200 * x5) + x6) 1000000) (Nat.le_trans (by decide) hd) hΦ (rg_UA hR (by decide)) ⟨rr.1, rr.2.1, rr.2.2.1, g3⟩ ⟨g12, g13⟩
          have h := h r_1 A_1 hr_1 hR_1 hp_1
          refine p_callV (cc3 c154_128) (Nat.le_of_ble_eq_true rfl) rfl rfl (Nat.le_of_ble_eq_true rfl) (ml_kd hΦ) he ?_
          refine id (α := Rg r_1 → _) (fun _ => ?_) hr_1; refine n_asti hΦ (c := 30) (n := 4800) (ni := 4800) (hv := rfl) (cc3 c154_131) (by decide) rfl rfl rfl (by decide) g6 ?_
          refine p_goto (cc3 c154_132) ?_
          refine p_lc (ls' := [(0, .ref m), (1, .int (iz x1)), (2, .int (iz x2)), (3, .int (iz x3)), (4, .int (iz x4)), (5, .int (iz x5)), (6, .int (iz x6))]) c154_234 rfl rfl ?_
          obtain ⟨g14, h⟩ := h
          refine (fun _ : Rg (x6 + 1) => i_iinc (n := 1) (y := x6 + 1) (ls' := [(6, .int (iz (x6 + 1))), (0, .ref m), (1, .int (iz x1)), (2, .int (iz x2)), (3, .int (iz x3)), (4, .int (iz x4)), (5, .int (iz x5))]) (cct c154_234 rfl) (by decide) rfl zl_1 (by first | rfl | omega) rfl ?_) g14
          refine p_goto (cc3 c154_237) ?_
          exact p_lc (ls' := [(0, .ref m), (1, .int (iz x1)), (2, .int (iz x2)), (3, .int (iz x3)), (4, .int (iz x4)), (5, .int (iz x5)), (6, .int (iz (x6 + 1)))]) c154_22 rfl rfl h
        · have h := h.2 c
          refine i_push (n := 1) (cc3 c154_135) zl_1 ?_
          refine p_ist (ls' := [(8, .int (iz 1)), (7, .int (iz ((A 29 x5) + (x6 * (A 0 32))))), (0, .ref m), (1, .int (iz x1)), (2, .int (iz x2)), (3, .int (iz x3)), (4, .int (iz x4)), (5, .int (iz x5)), (6, .int (iz x6))]) (cc3 c154_136) (by decide) rfl ?_
          exact p_lc (ls' := [(0, .ref m), (1, .int (iz x1)), (2, .int (iz x2)), (3, .int (iz x3)), (4, .int (iz x4)), (5, .int (iz x5)), (6, .int (iz x6)), (8, .int (iz 1))]) c154_138 rfl rfl h
      · have h := h.2 c
        refine p_goto (cc3 c154_97) ?_
        refine p_lc (ls' := [(0, .ref m), (1, .int (iz x1)), (2, .int (iz x2)), (3, .int (iz x3)), (4, .int (iz x4)), (5, .int (iz x5)), (6, .int (iz x6))]) c154_234 rfl rfl ?_
        obtain ⟨g11, h⟩ := h
        refine (fun _ : Rg (x6 + 1) => i_iinc (n := 1) (y := x6 + 1) (ls' := [(6, .int (iz (x6 + 1))), (0, .ref m), (1, .int (iz x1)), (2, .int (iz x2)), (3, .int (iz x3)), (4, .int (iz x4)), (5, .int (iz x5))]) (cct c154_234 rfl) (by decide) rfl zl_1 (by first | rfl | omega) rfl ?_) g11
        refine p_goto (cc3 c154_237) ?_
        exact p_lc (ls' := [(0, .ref m), (1, .int (iz x1)), (2, .int (iz x2)), (3, .int (iz x3)), (4, .int (iz x4)), (5, .int (iz x5)), (6, .int (iz (x6 + 1)))]) c154_22 rfl rfl h
theorem V154_138 {d : Nat} (hd : 2 ≤ d) {Q : Option Value → xM → Prop} {m : Nat} {Φ : (Nat → Nat → Int32) → xM} (hΦ : MLaw m Φ) {A : Nat → Int → Int} (hR : RG A) {x1 x2 x3 x4 x5 x6 x8 : Int} (rr : Rg x1 ∧ Rg x2 ∧ Rg x3 ∧ Rg x4 ∧ Rg x5 ∧ Rg x6 ∧ Rg x8) (h : (((4 < x8) → (Rg (x6 + 1)) ∧ wpE (xT 154) (xev xT d) Q (22, [(0, .ref m), (1, .int (iz x1)), (2, .int (iz x2)), (3, .int (iz x3)), (4, .int (iz x4)), (5, .int (iz x5)), (6, .int (iz (x6 + 1)))], [], Φ (mI A))) ∧ (¬ (4 < x8) → (0 ≤ x1 ∧ x1 < 8) ∧ (4 ≤ A 15 x1) ∧ (0 ≤ A 17 x1 ∧ A 17 x1 ≤ 2000) ∧ (0 ≤ A 0 32 ∧ A 0 32 ≤ 400) ∧ (1 ≤ x8 ∧ x8 ≤ 4) ∧ (0 ≤ x6 ∧ x6 ≤ 200) ∧ (Rg (m_nextOf A x1 x5 x6 x8)) ∧ (((200 ≤ (m_nextOf A x1 x5 x6 x8)) → (Rg (x8 + 1)) ∧ wpE (xT 154) (xev xT d) Q (138, [(0, .ref m), (1, .int (iz x1)), (2, .int (iz x2)), (3, .int (iz x3)), (4, .int (iz x4)), (5, .int (iz x5)), (6, .int (iz x6)), (8, .int (iz (x8 + 1)))], [], Φ (mI A))) ∧ (¬ (200 ≤ (m_nextOf A x1 x5 x6 x8)) → (Rg (x5 + 1)) ∧ (Rg (200 * (x5 + 1))) ∧ (Rg ((200 * (x5 + 1)) + (m_nextOf A x1 x5 x6 x8))) ∧ (0 ≤ ((200 * (x5 + 1)) + (m_nextOf A x1 x5 x6 x8)) ∧ ((200 * (x5 + 1)) + (m_nextOf A x1 x5 x6 x8)) < 4800) ∧ (Rg (200 * x5)) ∧ (Rg ((200 * x5) + x6)) ∧ (0 ≤ ((200 * x5) + x6) ∧ ((200 * x5) + x6) < 4800) ∧ ((((A 30 ((200 * x5) + x6)) ≤ (A 30 ((200 * (x5 + 1)) + (m_nextOf A x1 x5 x6 x8)))) → (Rg (x8 + 1)) ∧ wpE (xT 154) (xev xT d) Q (138, [(0, .ref m), (1, .int (iz x1)), (2, .int (iz x2)), (3, .int (iz x3)), (4, .int (iz x4)), (5, .int (iz x5)), (6, .int (iz x6)), (8, .int (iz (x8 + 1)))], [], Φ (mI A))) ∧ (¬ ((A 30 ((200 * x5) + x6)) ≤ (A 30 ((200 * (x5 + 1)) + (m_nextOf A x1 x5 x6 x8)))) → (Rg (x8 + 1)) ∧ wpE (xT 154) (xev xT d) Q (138, [(0, .ref m), (1, .int (iz x1)), (2, .int (iz x2)), (3, .int (iz x3)), (4, .int (iz x4)), (5, .int (iz x5)), (6, .int (iz x6)), (8, .int (iz (x8 + 1)))], [], Φ (mI (UA A 30 ((200 * x5) + x6) (A 30 ((200 * (x5 + 1)) + (m_nextOf A x1 x5 x6 x8))))))))))))) : wpE (xT 154) (xev xT d) Q (138, [(0, .ref m), (1, .int (iz x1)), (2, .int (iz x2)), (3, .int (iz x3)), (4, .int (iz x4)), (5, .int (iz x5)), (6, .int (iz x6)), (8, .int (iz x8))], [], Φ (mI A)) := by
  refine p_ild (cct c154_138 rfl) rfl ?_
  refine i_push (n := 4) (cc3 c154_140) zl_4 ?_
  refine i_icmp (c' := 4 < x8) (cc3 c154_141) (iz_lt (by decide) rr.2.2.2.2.2.2) (fun c => ?_) (fun c => ?_)
  · have h := h.1 c
    refine p_lc (ls' := [(0, .ref m), (1, .int (iz x1)), (2, .int (iz x2)), (3, .int (iz x3)), (4, .int (iz x4)), (5, .int (iz x5)), (6, .int (iz x6))]) c154_234 rfl rfl ?_
    obtain ⟨g1, h⟩ := h
    refine (fun _ : Rg (x6 + 1) => i_iinc (n := 1) (y := x6 + 1) (ls' := [(6, .int (iz (x6 + 1))), (0, .ref m), (1, .int (iz x1)), (2, .int (iz x2)), (3, .int (iz x3)), (4, .int (iz x4)), (5, .int (iz x5))]) (cct c154_234 rfl) (by decide) rfl zl_1 (by first | rfl | omega) rfl ?_) g1
    refine p_goto (cc3 c154_237) ?_
    exact p_lc (ls' := [(0, .ref m), (1, .int (iz x1)), (2, .int (iz x2)), (3, .int (iz x3)), (4, .int (iz x4)), (5, .int (iz x5)), (6, .int (iz (x6 + 1)))]) c154_22 rfl rfl h
  · have h := h.2 c
    refine p_ald (cc3 c154_144) rfl ?_
    refine p_ild (cc3 c154_145) rfl ?_
    refine p_ild (cc3 c154_146) rfl ?_
    refine p_ild (cc3 c154_148) rfl ?_
    refine p_ild (cc3 c154_150) rfl ?_
    obtain ⟨g1, h⟩ := h
    obtain ⟨g2, h⟩ := h
    obtain ⟨g3, h⟩ := h
    obtain ⟨g4, h⟩ := h
    obtain ⟨g5, h⟩ := h
    obtain ⟨g6, h⟩ := h
    refine p_callV (cc3 c154_152) (Nat.le_of_ble_eq_true rfl) rfl rfl (Nat.le_of_ble_eq_true rfl) (ml_kd hΦ) (S156 (Nat.le_trans (by decide) hd) hΦ hR ⟨rr.1, rr.2.2.2.2.1, rr.2.2.2.2.2.1, rr.2.2.2.2.2.2⟩ ⟨g1, g2, g3, g4, g5, g6⟩) ?_
    refine p_ist (ls' := [(9, .int (iz (m_nextOf A x1 x5 x6 x8))), (0, .ref m), (1, .int (iz x1)), (2, .int (iz x2)), (3, .int (iz x3)), (4, .int (iz x4)), (5, .int (iz x5)), (6, .int (iz x6)), (8, .int (iz x8))]) (cc3 c154_155) (by decide) rfl ?_
    refine p_ild (cc3 c154_157) rfl ?_
    refine i_push (n := 200) (cc3 c154_159) zl_200 ?_
    obtain ⟨g7, h⟩ := h
    refine i_icmp (c' := 200 ≤ (m_nextOf A x1 x5 x6 x8)) (cc3 c154_162) (iz_le (by decide) g7) (fun c => ?_) (fun c => ?_)
    · have h := h.1 c
      refine p_lc (ls' := [(0, .ref m), (1, .int (iz x1)), (2, .int (iz x2)), (3, .int (iz x3)), (4, .int (iz x4)), (5, .int (iz x5)), (6, .int (iz x6)), (8, .int (iz x8))]) c154_228 rfl rfl ?_
      obtain ⟨g8, h⟩ := h
      refine (fun _ : Rg (x8 + 1) => i_iinc (n := 1) (y := x8 + 1) (ls' := [(8, .int (iz (x8 + 1))), (0, .ref m), (1, .int (iz x1)), (2, .int (iz x2)), (3, .int (iz x3)), (4, .int (iz x4)), (5, .int (iz x5)), (6, .int (iz x6))]) (cct c154_228 rfl) (by decide) rfl zl_1 (by first | rfl | omega) rfl ?_) g8
      refine p_goto (cc3 c154_231) ?_
      exact p_lc (ls' := [(0, .ref m), (1, .int (iz x1)), (2, .int (iz x2)), (3, .int (iz x3)), (4, .int (iz x4)), (5, .int (iz x5)), (6, .int (iz x6)), (8, .int (iz (x8 + 1)))]) c154_138 rfl rfl h
    · have h := h.2 c
      refine p_ald (cc3 c154_165) rfl ?_
      refine pm_getp hΦ (cc3 c154_166) (c := 30) rfl (by decide) ?_
      refine i_push (n := 200) (cc3 c154_169) zl_200 ?_
      refine p_ild (cc3 c154_172) rfl ?_
      refine i_push (n := 1) (cc3 c154_174) zl_1 ?_
      obtain ⟨g8, h⟩ := h
      refine (fun _ : Rg (x5 + 1) => i_add (cc3 c154_175) ?_) g8
      obtain ⟨g9, h⟩ := h
      refine (fun _ : Rg (200 * (x5 + 1)) => i_mul (cc3 c154_176) ?_) g9
      refine p_ild (cc3 c154_177) rfl ?_
      obtain ⟨g10, h⟩ := h
      refine (fun _ : Rg ((200 * (x5 + 1)) + (m_nextOf A x1 x5 x6 x8)) => i_add (cc3 c154_179) ?_) g10
      obtain ⟨g11, h⟩ := h
      refine n_aldi hΦ (c := 30) (n := 4800) (ni := 4800) (cc3 c154_180) (by decide) rfl rfl rfl (by decide) g11 (v := A 30 ((200 * (x5 + 1)) + (m_nextOf A x1 x5 x6 x8))) rfl ?_
      refine p_ald (cc3 c154_181) rfl ?_
      refine pm_getp hΦ (cc3 c154_182) (c := 30) rfl (by decide) ?_
      refine i_push (n := 200) (cc3 c154_185) zl_200 ?_
      refine p_ild (cc3 c154_188) rfl ?_
      obtain ⟨g12, h⟩ := h
      refine (fun _ : Rg (200 * x5) => i_mul (cc3 c154_190) ?_) g12
      refine p_ild (cc3 c154_191) rfl ?_
      obtain ⟨g13, h⟩ := h
      refine (fun _ : Rg ((200 * x5) + x6) => i_add (cc3 c154_193) ?_) g13
      obtain ⟨g14, h⟩ := h
      refine n_aldi hΦ (c := 30) (n := 4800) (ni := 4800) (cc3 c154_194) (by decide) rfl rfl rfl (by decide) g14 (v := A 30 ((200 * x5) + x6)) rfl ?_
      refine i_icmp (c' := (A 30 ((200 * x5) + x6)) ≤ (A 30 ((200 * (x5 + 1)) + (m_nextOf A x1 x5 x6 x8)))) (cc3 c154_195) (iz_le (hR 30 ((200 * x5) + x6)) (hR 30 ((200 * (x5 + 1)) + (m_nextOf A x1 x5 x6 x8)))) (fun c => ?_) (fun c => ?_)
      · have h := h.1 c
        refine p_lc (ls' := [(0, .ref m), (1, .int (iz x1)), (2, .int (iz x2)), (3, .int (iz x3)), (4, .int (iz x4)), (5, .int (iz x5)), (6, .int (iz x6)), (8, .int (iz x8))]) c154_228 rfl rfl ?_
        obtain ⟨g15, h⟩ := h
        refine (fun _ : Rg (x8 + 1) => i_iinc (n := 1) (y := x8 + 1) (ls' := [(8, .int (iz (x8 + 1))), (0, .ref m), (1, .int (iz x1)), (2, .int (iz x2)), (3, .int (iz x3)), (4, .int (iz x4)), (5, .int (iz x5)), (6, .int (iz x6))]) (cct c154_228 rfl) (by decide) rfl zl_1 (by first | rfl | omega) rfl ?_) g15
        refine p_goto (cc3 c154_231) ?_
        exact p_lc (ls' := [(0, .ref m), (1, .int (iz x1)), (2, .int (iz x2)), (3, .int (iz x3)), (4, .int (iz x4)), (5, .int (iz x5)), (6, .int (iz x6)), (8, .int (iz (x8 + 1)))]) c154_138 rfl rfl h
      · have h := h.2 c
        refine p_ald (cc3 c154_198) rfl ?_
        refine pm_getp hΦ (cc3 c154_199) (c := 30) rfl (by decide) ?_
        refine i_push (n := 200) (cc3 c154_202) zl_200 ?_
        refine p_ild (cc3 c154_205) rfl ?_
        refine (fun _ : Rg (200 * x5) => i_mul (cc3 c154_207) ?_) g12
        refine p_ild (cc3 c154_208) rfl ?_
        refine (fun _ : Rg ((200 * x5) + x6) => i_add (cc3 c154_210) ?_) g13
        refine p_ald (cc3 c154_211) rfl ?_
        refine pm_getp hΦ (cc3 c154_212) (c := 30) rfl (by decide) ?_
        refine i_push (n := 200) (cc3 c154_215) zl_200 ?_
        refine p_ild (cc3 c154_218) rfl ?_
        refine i_push (n := 1) (cc3 c154_220) zl_1 ?_
        refine (fun _ : Rg (x5 + 1) => i_add (cc3 c154_221) ?_) g8
        refine (fun _ : Rg (200 * (x5 + 1)) => i_mul (cc3 c154_222) ?_) g9
        refine p_ild (cc3 c154_223) rfl ?_
        refine (fun _ : Rg ((200 * (x5 + 1)) + (m_nextOf A x1 x5 x6 x8)) => i_add (cc3 c154_225) ?_) g10
        refine n_aldi hΦ (c := 30) (n := 4800) (ni := 4800) (cc3 c154_226) (by decide) rfl rfl rfl (by decide) g11 (v := A 30 ((200 * (x5 + 1)) + (m_nextOf A x1 x5 x6 x8))) rfl ?_
        refine id (α := Rg (A 30 ((200 * (x5 + 1)) + (m_nextOf A x1 x5 x6 x8))) → _) (fun _ => ?_) (hR 30 ((200 * (x5 + 1)) + (m_nextOf A x1 x5 x6 x8))); refine n_asti hΦ (c := 30) (n := 4800) (ni := 4800) (hv := rfl) (cc3 c154_227) (by decide) rfl rfl rfl (by decide) g14 ?_
        refine p_lc (ls' := [(0, .ref m), (1, .int (iz x1)), (2, .int (iz x2)), (3, .int (iz x3)), (4, .int (iz x4)), (5, .int (iz x5)), (6, .int (iz x6)), (8, .int (iz x8))]) c154_228 rfl rfl ?_
        obtain ⟨g15, h⟩ := h
        refine (fun _ : Rg (x8 + 1) => i_iinc (n := 1) (y := x8 + 1) (ls' := [(8, .int (iz (x8 + 1))), (0, .ref m), (1, .int (iz x1)), (2, .int (iz x2)), (3, .int (iz x3)), (4, .int (iz x4)), (5, .int (iz x5)), (6, .int (iz x6))]) (cct c154_228 rfl) (by decide) rfl zl_1 (by first | rfl | omega) rfl ?_) g15
        refine p_goto (cc3 c154_231) ?_
        exact p_lc (ls' := [(0, .ref m), (1, .int (iz x1)), (2, .int (iz x2)), (3, .int (iz x3)), (4, .int (iz x4)), (5, .int (iz x5)), (6, .int (iz x6)), (8, .int (iz (x8 + 1)))]) c154_138 rfl rfl h

theorem L154c {d : Nat} (hd : 2 ≤ d) {Q : Option Value → xM → Prop} {m : Nat} {Φ : (Nat → Nat → Int32) → xM} (hΦ : MLaw m Φ) {A0 Ab : Nat → Int → Int} {k b s p o x4 : Int} (hL : LayC A0 k b s) (hB : BaseC A0 k s) (hp : 0 ≤ p ∧ p ≤ A0 15 k - 2) (ho : 0 ≤ o ∧ o < 200) (h4 : x4 = A0 15 k)
    (hprev : BestC A0 k b s (p + 1) (Ab 30))
    (hN : ∀ A', RG A' → Fr [30] [36] A0 A' → (∀ j, ¬ j = 200 * p + o → A' 30 j = Ab 30 j) → (o ≤ 8 * p → A' 30 (200 * p + o) = gM (yf A0 k b s p (A0 29 p + o * A0 3 s)) 4) → wpE (xT 154) (xev xT d) Q (22, [(0, .ref m), (1, .int (iz k)), (2, .int (iz b)), (3, .int (iz s)), (4, .int (iz x4)), (5, .int (iz p)), (6, .int (iz (o + 1)))], [], Φ (mI A'))) :
    ∀ (r mm : Nat), mm + r = 4 → ∀ A, RG A → Fr [30] [36] A0 A → (∀ j, ¬ j = 200 * p + o → A 30 j = Ab 30 j) → (o ≤ 8 * p → A 30 (200 * p + o) = gM (yf A0 k b s p (A0 29 p + o * A0 3 s)) mm) → wpE (xT 154) (xev xT d) Q (138, [(0, .ref m), (1, .int (iz k)), (2, .int (iz b)), (3, .int (iz s)), (4, .int (iz x4)), (5, .int (iz p)), (6, .int (iz o)), (8, .int (iz ((mm : Int) + 1)))], [], Φ (mI A)) := by
  intro r
  induction r with
  | zero =>
    intro mm hm A hR hF hj hv
    obtain ⟨a1, a2, a3, a4, a5, a6, a7, a8, a9, a10, a11⟩ := hL
    refine V154_138 hd hΦ hR (by omega) ?_
    refine ⟨fun _ => ⟨by omega, hN A hR hF hj ?_⟩, fun h => absurd (show 4 < (mm : Int) + 1 by omega) h⟩
    rw [show mm = 4 by omega] at hv; exact hv
  | succ r ih =>
    intro mm hm A hR hF hj hv
    have hLA := hL.fr hF (by decide) (by decide)
    have eP : A 0 32 = A0 3 s := by rw [hF.2 32 (by decide)]; exact hL.2.2.2.1
    have e15 : A 15 = A0 15 := hF.1 15 (by decide) (by decide)
    have e17 : A 17 = A0 17 := hF.1 17 (by decide) (by decide)
    have e11 : A 11 = A0 11 := hF.1 11 (by decide) (by decide)
    obtain ⟨a1, a2, a3, a4, a5, a6, a7, a8, a9, a10, a11⟩ := hLA
    rw [e15] at a8
    rw [hF.1 3 (by decide) (by decide)] at a4 a5
    have pb := periods_b (A := A0) (k := k) (p := p) (m := (mm : Int) + 1) (by omega)
    have emp : m_periods A = m_periods A0 := by funext k p q; unfold m_periods; rw [e11, e15]
    have est : m_fixed A k p + m_periods A k p ((mm : Int) + 1) * A 0 32 = yst A0 k (A0 3 s) p ((mm : Int) + 1) := by
      rw [fixed_y, eP, emp]
      unfold yst yfx
      rw [e11, e15, e17]
    have eno : m_nextOf A k p o ((mm : Int) + 1) = if A0 17 k < yst A0 k (A0 3 s) p ((mm : Int) + 1) then o + m_periods A0 k p ((mm : Int) + 1) else 200 := by
      unfold m_nextOf; rw [est, emp, e17]
    have efv : yf A0 k b s p (A0 29 p + o * A0 3 s) ((mm : Int) + 1) = if A0 17 k < yst A0 k (A0 3 s) p ((mm : Int) + 1) then yG A0 k b s (A0 15 k - 2 - p).toNat (A0 29 p + o * A0 3 s + yst A0 k (A0 3 s) p ((mm : Int) + 1)) else 1000000 := rfl
    have eg : gM (yf A0 k b s p (A0 29 p + o * A0 3 s)) (mm + 1) = if yf A0 k b s p (A0 29 p + o * A0 3 s) ((mm : Int) + 1) < gM (yf A0 k b s p (A0 29 p + o * A0 3 s)) mm then yf A0 k b s p (A0 29 p + o * A0 3 s) ((mm : Int) + 1) else gM (yf A0 k b s p (A0 29 p + o * A0 3 s)) mm := rfl
    have gl := gM_le (f := yf A0 k b s p (A0 29 p + o * A0 3 s)) mm
    have ih' := fun A' h1 h2 h3 h4 => ih (mm + 1) (by omega) A' h1 h2 h3 h4
    rw [show ((mm + 1 : Nat) : Int) + 1 = (mm : Int) + 1 + 1 from rfl] at ih'
    refine V154_138 hd hΦ hR (by omega) ?_
    rw [eno]
    refine ⟨fun h => absurd h (by omega), fun _ => ⟨by omega, by rw [e15]; omega, by omega, by omega, by omega, by omega, by split <;> omega, fun c1 => ⟨by omega, ?_⟩, fun c1 => ?_⟩⟩
    · refine ih' A hR hF hj (fun q => ?_)
      rw [hv q, eg, efv]
      split at c1
      · exfalso; omega
      · rename_i c2
        rw [if_neg c2, if_neg (by omega)]
    · have c2 : A0 17 k < yst A0 k (A0 3 s) p ((mm : Int) + 1) := by
        apply Classical.byContradiction
        intro q
        rw [if_neg q] at c1; omega
      rw [if_pos c2] at c1 ⊢
      rw [if_pos c2] at efv
      have hval : o ≤ 8 * p → A 30 (200 * (p + 1) + (o + m_periods A0 k p ((mm : Int) + 1))) = yf A0 k b s p (A0 29 p + o * A0 3 s) ((mm : Int) + 1) := fun q => by
        rw [hj _ (by omega), hprev _ (by omega) (by omega), efv, hB.2 p (by omega) (by omega)]
        have e1 : A0 15 k - 1 - (p + 1) = A0 15 k - 2 - p := by omega
        have e2 : A0 29 p + yfx A0 k (A0 3 s) p + (o + m_periods A0 k p ((mm : Int) + 1)) * A0 3 s = A0 29 p + o * A0 3 s + yst A0 k (A0 3 s) p ((mm : Int) + 1) := by
          unfold yst; rw [Int.add_mul]; omega
        rw [e1, e2]
      refine ⟨by omega, by omega, by omega, by omega, by omega, by omega, by omega, fun c3 => ⟨by omega, ?_⟩, fun c3 => ⟨by omega, ?_⟩⟩
      · refine ih' A hR hF hj (fun q => ?_)
        rw [hv q, eg]
        rw [hval q, hv q] at c3
        rw [if_neg (by omega)]
      · refine ih' _ (rg_UA hR (hR _ _)) (hF.row (by decide) (by decide)) (fun j q => ?_) (fun q => ?_)
        · rw [UA_j q]; exact hj j q
        · rw [UA_eq, eg]
          rw [hval q, hv q] at c3
          rw [if_pos (by omega)]
          exact hval q
theorem L154b {d : Nat} (hd : 2 ≤ d) {Q : Option Value → xM → Prop} {m : Nat} {Φ : (Nat → Nat → Int32) → xM} (hΦ : MLaw m Φ) {A0 : Nat → Int → Int} {k b s p x4 : Int} (hL : LayC A0 k b s) (hB : BaseC A0 k s) (hp : 0 ≤ p ∧ p ≤ A0 15 k - 1) (h4 : x4 = A0 15 k)
    (hN : ∀ A', RG A' → Fr [30] [36] A0 A' → (∀ q : Int, p < q → q < A0 15 k → BestC A0 k b s q (A' 30)) → BestC A0 k b s p (A' 30) → wpE (xT 154) (xev xT d) Q (14, [(0, .ref m), (1, .int (iz k)), (2, .int (iz b)), (3, .int (iz s)), (4, .int (iz x4)), (5, .int (iz (p - 1)))], [], Φ (mI A'))) :
    ∀ (r : Nat) (o : Int), 0 ≤ o → o + r = 200 → ∀ A, RG A → Fr [30] [36] A0 A → (∀ q : Int, p < q → q < A0 15 k → BestC A0 k b s q (A 30)) → (∀ t : Int, 0 ≤ t → t < o → t ≤ 8 * p → A 30 (200 * p + t) = yG A0 k b s (A0 15 k - 1 - p).toNat (A0 29 p + t * A0 3 s)) → wpE (xT 154) (xev xT d) Q (22, [(0, .ref m), (1, .int (iz k)), (2, .int (iz b)), (3, .int (iz s)), (4, .int (iz x4)), (5, .int (iz p)), (6, .int (iz o))], [], Φ (mI A)) := by
  intro r
  induction r with
  | zero =>
    intro o h0 h1 A hR hF hq hv
    obtain ⟨a1, a2, a3, a4, a5, a6, a7, a8, a9, a10, a11⟩ := hL
    refine V154_22 hd hΦ hR (by omega) ?_
    refine ⟨fun _ => ⟨by omega, hN A hR hF hq (fun t t1 t2 => hv t t1 (by omega) t2)⟩, fun h => absurd (show 200 ≤ o by omega) h⟩
  | succ r ih =>
    intro o h0 h1 A hR hF hq hv
    have hLA := hL.fr hF (by decide) (by decide)
    have eP : A 0 32 = A0 3 s := by rw [hF.2 32 (by decide)]; exact hL.2.2.2.1
    have e8 : A 8 = A0 8 := hF.1 8 (by decide) (by decide)
    have e17 : A 17 = A0 17 := hF.1 17 (by decide) (by decide)
    have e29 : A 29 = A0 29 := hF.1 29 (by decide) (by decide)
    have eF : m_isF A = m_isF A0 := m_isF_c (hF.1 9 (by decide) (by decide)) (hF.1 10 (by decide) (by decide))
    have hL' := hL
    obtain ⟨a1, a2, a3, a4, a5, a6, a7, a8, a9, a10, a11⟩ := hL'
    have ab := hB.1 p (by omega) (by omega)
    have b1 := mul_b (a := o) (b := A0 3 s) (M := 200) (N := 400) (by omega) (by omega) (by omega) (by omega)
    have a9' : 0 ≤ A 9 b ∧ A 9 b ≤ 10 := hLA.2.2.2.2.2.1
    -- when the cell has its value, on to the next one
    have hgo : ∀ A', RG A' → Fr [30] [36] A0 A' → (∀ j, ¬ j = 200 * p + o → A' 30 j = A 30 j) → (o ≤ 8 * p → A' 30 (200 * p + o) = yG A0 k b s (A0 15 k - 1 - p).toNat (A0 29 p + o * A0 3 s)) → wpE (xT 154) (xev xT d) Q (22, [(0, .ref m), (1, .int (iz k)), (2, .int (iz b)), (3, .int (iz s)), (4, .int (iz x4)), (5, .int (iz p)), (6, .int (iz (o + 1)))], [], Φ (mI A')) := fun A' hR' hF' hj hval => by
      refine ih (o + 1) (by omega) (by omega) A' hR' hF' (fun q q1 q2 t t1 t2 => ?_) (fun t t1 t2 t3 => ?_)
      · rw [hj _ (by omega)]; exact hq q q1 q2 t t1 t2
      · by_cases e : t = o
        · subst e; exact hval t3
        · rw [hj _ (by omega)]; exact hv t t1 (by omega) t3
    have hR1 : RG (UA A 30 (200 * p + o) 1000000) := rg_UA hR (by decide)
    have hF1 : Fr [30] [36] A0 (UA A 30 (200 * p + o) 1000000) := hF.row (by decide) (by decide)
    have hj1 : ∀ j, ¬ j = 200 * p + o → UA A 30 (200 * p + o) 1000000 30 j = A 30 j := fun j q => UA_j q
    have hyn : p = A0 15 k - 1 → (A0 15 k - 1 - p).toNat = 0 := fun q => by omega
    refine V154_22 hd hΦ hR (by omega) ?_
    rw [eP, e8, e17, e29, eF]
    refine ⟨fun h => absurd h (by omega), fun _ => ⟨by omega, by omega, by omega, by omega, by omega, by omega, by omega, by omega, by omega, fun c1 => ⟨by omega, ?_⟩, fun c1 => ⟨a9', fun c2 => ⟨by omega, fun c3 => ⟨?_, by omega, fun r1 A1 hr1 hR2 hp1 => ⟨by omega, ?_⟩⟩, fun c3 => ?_⟩, fun c2 => ⟨by omega, ?_⟩⟩⟩⟩
    · refine hgo _ hR1 hF1 hj1 (fun _ => ?_)
      rw [UA_eq]
      by_cases q : p = A0 15 k - 1
      · rw [hyn q, yG_0, if_pos c1]
      · rw [yG_s (by omega), if_pos c1]
    · exact hLA
    · obtain ⟨q1, q2⟩ := hp1
      have hF2 : Fr [30] [36] A0 A1 := hF1.tr (q2.mono (fun c h => absurd h (by simp)) (fun j h => h))
      have eA1 : A1 30 = UA A 30 (200 * p + o) 1000000 30 := q2.1 30 (by decide) (by decide)
      have ey : yE (UA A 30 (200 * p + o) 1000000) = yE A0 := yE_c (fun c hc => hF1.1 c (by revert hc; simp; omega) (by revert hc; simp; omega))
      refine hgo _ (rg_UA hR2 hr1) (hF2.row (by decide) (by decide)) (fun j q => ?_) (fun _ => ?_)
      · rw [UA_j q, eA1]; exact hj1 j q
      · rw [UA_eq, q1, ey, hyn (by omega), yG_0, if_neg c1, if_neg c2]
    · refine L154c hd hΦ hL hB (by omega) (by omega) h4 (hq (p + 1) (by omega) (by omega)) (Ab := A) (fun A' hR' hF' hj hval => ?_) 4 0 rfl _ hR1 hF1 hj1 (fun _ => by rw [UA_eq]; rfl)
      refine hgo A' hR' hF' hj (fun q => ?_)
      rw [hval q, yG_s (by omega), if_neg c1, if_neg c2]
    · refine hgo _ hR1 hF1 hj1 (fun _ => ?_)
      rw [UA_eq]
      by_cases q : p = A0 15 k - 1
      · rw [hyn q, yG_0, if_neg c1, if_pos c2]
      · rw [yG_s (by omega), if_neg c1, if_pos c2]
theorem L154a {d : Nat} (hd : 2 ≤ d) {Q : Option Value → xM → Prop} {m : Nat} {Φ : (Nat → Nat → Int32) → xM} (hΦ : MLaw m Φ) {A0 : Nat → Int → Int} {k b s x4 : Int} (hL : LayC A0 k b s) (hB : BaseC A0 k s) (h4 : x4 = A0 15 k)
    (hQ : ∀ A', RG A' → Fr [30] [36] A0 A' → (∀ p : Int, 0 ≤ p → p < A0 15 k → BestC A0 k b s p (A' 30)) → Q none (Φ (mI A'))) :
    ∀ (r : Nat) (p : Int), p + 1 = r → p < A0 15 k → ∀ A, RG A → Fr [30] [36] A0 A → (∀ q : Int, p < q → q < A0 15 k → BestC A0 k b s q (A 30)) → wpE (xT 154) (xev xT d) Q (14, [(0, .ref m), (1, .int (iz k)), (2, .int (iz b)), (3, .int (iz s)), (4, .int (iz x4)), (5, .int (iz p))], [], Φ (mI A)) := by
  intro r
  induction r with
  | zero =>
    intro p h1 h2 A hR hF hq
    obtain ⟨a1, a2, a3, a4, a5, a6, a7, a8, a9, a10, a11⟩ := hL
    refine V154_14 hd hΦ hR (by omega) ?_
    exact ⟨fun _ => hQ A hR hF (fun q q1 q2 => hq q (by omega) q2), fun h => absurd (show p < 0 by omega) h⟩
  | succ r ih =>
    intro p h1 h2 A hR hF hq
    have hL' := hL
    obtain ⟨a1, a2, a3, a4, a5, a6, a7, a8, a9, a10, a11⟩ := hL'
    refine V154_14 hd hΦ hR (by omega) ?_
    refine ⟨fun h => absurd h (by omega), fun _ => ?_⟩
    refine L154b hd hΦ hL hB (by omega) h4 (fun A' hR' hF' hq' hv' => ?_) 200 0 (Int.le_refl 0) rfl A hR hF hq (fun t t1 t2 _ => by omega)
    refine ih (p - 1) (by omega) (by omega) A' hR' hF' (fun q q1 q2 => ?_)
    by_cases e : q = p
    · subst e; exact hv'
    · exact hq' q (by omega) q2
theorem S154 {d : Nat} (hd : 3 ≤ d) {m : Nat} {Φ : (Nat → Nat → Int32) → xM} (hΦ : MLaw m Φ) {A : Nat → Int → Int} (hR : RG A) {x1 x2 x3 : Int} (rr : Rg x1 ∧ Rg x2 ∧ Rg x3) (hp : (LayC A x1 x2 x3) ∧ (BaseC A x1 x3)) : ∃ (A' : Nat → Int → Int), xev xT d 154 [.ref m, .int (iz x1), .int (iz x2), .int (iz x3)] (Φ (mI A)) none (Φ (mI A')) ∧ RG A' ∧ (Fr [30] [36] A A' ∧ ∀ p : Int, 0 ≤ p → p < A 15 x1 → BestC A x1 x2 x3 p (A' 30)) := by
  refine xev_g (i := 154) (as := [.ref m, .int (iz x1), .int (iz x2), .int (iz x3)]) (σ := Φ (mI A)) (Q := fun r_ σ_ => ∃ (A' : Nat → Int → Int), r_ = none ∧ σ_ = Φ (mI A') ∧ RG A' ∧ (Fr [30] [36] A A' ∧ ∀ p : Int, 0 ≤ p → p < A 15 x1 → BestC A x1 x2 x3 p (A' 30))) (D := 2) hd (Nat.le_of_ble_eq_true rfl) (fun r_ σ_ he hq => ?_) (fun d hd => V154_0 hd hΦ hR rr ?_)
  · obtain ⟨A', rfl, rfl, hq⟩ := hq
    exact ⟨A', he, hq⟩

  have hL := hp.1
  obtain ⟨a1, a2, a3, a4, a5, a6, a7, a8, a9, a10, a11⟩ := hp.1
  refine ⟨by omega, by omega, ?_⟩
  refine L154a hd hΦ hL hp.2 rfl (fun A' hR' hF' hb => ?_) (A 15 x1).toNat (A 15 x1 - 1) (by omega) (by omega) A hR Fr.rf (fun q q1 q2 => by omega)
  exact ⟨A', rfl, rfl, hR', hF', hb⟩
