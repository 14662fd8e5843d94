abbrev lyRows : List Nat := [3, 5, 8, 9, 10, 11, 15, 17, 18]
theorem ypk_c {A A' : Nat → Int → Int} (h : ∀ c ∈ lyRows, A' c = A c) : ypk A' = ypk A := by
  funext k b s p x; unfold ypk; rw [yf_c h]
theorem yxs_c {A A' : Nat → Int → Int} (h : ∀ c ∈ lyRows, A' c = A c) : yxs A' = yxs A := by
  funext k b s x0 p
  induction p with
  | zero => rfl
  | succ p ih => unfold yxs; rw [ih, ypk_c h, yst_c (h 11 (by decide)) (h 15 (by decide)) (h 17 (by decide)), h 3 (by decide)]
theorem BestC_c {A A' : Nat → Int → Int} {B : Int → Int} {k b s p : Int} (h : ∀ c ∈ lyRows, A' c = A c) (h2 : A' 29 = A 29) (hb : BestC A k b s p B) : BestC A' k b s p B := fun o h3 h4 => by
  rw [yG_c h, h2, h 15 (by decide), h 3 (by decide)]; exact hb o h3 h4
theorem yfx_c {A A' : Nat → Int → Int} (h : ∀ c ∈ lyRows, A' c = A c) : yfx A' = yfx A := by
  funext k P p; unfold yfx; rw [h 11 (by decide), h 15 (by decide), h 17 (by decide)]
abbrev strd (A : Nat → Int → Int) (k : Int) : Prop := A 11 k = 1 ∨ A 11 k = 3 ∨ A 11 k = 5
def lyS (A : Nat → Int → Int) (k s j : Int) : Int := lst (A 3 s) 0 ((A 18 k).tdiv 2) (m_centre A s 0) + j * A 3 s
def lyX (A : Nat → Int → Int) (k s j : Int) : Int := if strd A k then lst (A 3 s) (lyS A k s j + A 18 k) ((A 17 k).tdiv 2) (m_centre A s (A 16 k)) else lyS A k s j + A 18 k
def lyG (A : Nat → Int → Int) (k b s j : Int) : Int := if m_isF A b (lyS A k s j) (A 18 k) = true then 1000000 else yG A k b s (A 15 k - 1).toNat (lyX A k s j)
/-- the least USED of the first j places of the over apron, and where it is first found -/
def lyB (A : Nat → Int → Int) (k b s : Int) : Nat → Int × Int
  | 0 => (1000000, 0)
  | j + 1 => if lyG A k b s j < (lyB A k b s j).1 then (lyG A k b s j, j) else lyB A k b s j
theorem lyB_le {A : Nat → Int → Int} {k b s : Int} : ∀ j : Nat, (lyB A k b s j).1 ≤ 1000000
  | 0 => Int.le_refl _
  | j + 1 => by
    have := lyB_le (A := A) (k := k) (b := b) (s := s) j
    unfold lyB; split <;> omega
def FindC (A : Nat → Int → Int) (k b s : Int) : Prop := LayC (UA A 0 32 (A 3 s)) k b s ∧ (strd A k → (0 ≤ A 16 k ∧ A 16 k < 10) ∧ ∀ q : Int, 0 ≤ q → q ≤ A 16 k → 1 ≤ A 5 (10 * s + q) ∧ A 5 (10 * s + q) ≤ 999)
/-- what find leaves when it has found -/
def FoundC (A A' : Nat → Int → Int) (k b s : Int) (j : Int) : Prop := A' 0 39 = j ∧ A' 0 40 = lyS A k s j ∧ ∀ p : Nat, (p : Int) < A 15 k → A' 32 p = yxs A k b s (lyX A k s j) p ∧ A' 31 p = if (p : Int) = A 15 k - 1 then -1 else ypk A k b s p (yxs A k b s (lyX A k s j) p)
theorem centre_b {A : Nat → Int → Int} {s k : Int} (h0 : 0 ≤ k ∧ k < 10) (h : ∀ q : Int, 0 ≤ q → q ≤ k → 1 ≤ A 5 (10 * s + q) ∧ A 5 (10 * s + q) ≤ 999) : 0 ≤ m_centre A s k ∧ m_centre A s k ≤ 20000 ∧ Rg (m_centre A s k) := by
  have h1 : 0 ≤ sm (m_w A s) k.toNat := sm_nn fun q hq => by have := (h q (by omega) (by omega)).1; show 0 ≤ A 5 (10 * s + q); omega
  have h2 : sm (m_w A s) k.toNat ≤ k.toNat * 999 := sm_le fun q hq => (h q (by omega) (by omega)).2
  have h3 := h k h0.1 (Int.le_refl k)
  have e : m_centre A s k = sm (m_w A s) k.toNat + (A 5 (10 * s + k) - 1).tdiv 2 := rfl
  have h4 : (A 5 (10 * s + k) - 1).tdiv 2 ≤ 999 ∧ 0 ≤ (A 5 (10 * s + k) - 1).tdiv 2 := by rw [tdiv_pos (by omega)]; omega
  rw [e]
  omega
def FInv (A0 : Nat → Int → Int) (k b s : Int) (j : Nat) (A : Nat → Int → Int) : Prop := RG A ∧ Fr [29, 30, 31, 32] [32, 36, 39, 40, 41] A0 A ∧ A 0 32 = A0 3 s ∧ A 0 41 = (lyB A0 k b s j).1 ∧ ((lyB A0 k b s j).1 < 1000000 → FoundC A0 A k b s (lyB A0 k b s j).2)
theorem FoundC_c {A A' A'' : Nat → Int → Int} {k b s j : Int} (h : FoundC A A' k b s j) (h1 : A'' 0 39 = A' 0 39) (h2 : A'' 0 40 = A' 0 40) (h3 : A'' 31 = A' 31) (h4 : A'' 32 = A' 32) : FoundC A A'' k b s j := by
  unfold FoundC at *; rw [h1, h2, h3, h4]; exact h
theorem fr_ly {A A' : Nat → Int → Int} {fs : List Int} (h : Fr [29, 30, 31, 32] fs A A') : ∀ c ∈ lyRows, A' c = A c := fun c hc => h.1 c (by revert hc; simp [lyRows]; omega) (by revert hc; simp [lyRows]; omega)
theorem fr_ly2 {A A' : Nat → Int → Int} {fs : List Int} (h : Fr [30] fs A A') : ∀ c ∈ lyRows, A' c = A c := fun c hc => h.1 c (by revert hc; simp [lyRows]; omega) (by revert hc; simp [lyRows]; omega)
theorem LayC.c {A A' : Nat → Int → Int} {k b s : Int} (h : LayC A k b s) (h1 : ∀ c ∈ lyRows, A' c = A c) (h2 : A' 0 32 = A 0 32) : LayC A' k b s := by
  unfold LayC at *
  rw [h2, h1 3 (by decide), h1 5 (by decide), h1 8 (by decide), h1 9 (by decide), h1 15 (by decide), h1 17 (by decide), h1 18 (by decide)]
  exact h
theorem yfx_b {A : Nat → Int → Int} {k P p : Int} (h : 1 ≤ A 17 k ∧ A 17 k ≤ 300) (h2 : 1 ≤ P ∧ P ≤ 400) : 0 ≤ yfx A k P p ∧ yfx A k P p ≤ 700 := by
  unfold yfx
  (repeat' split) <;> omega
theorem V151_0 {d : Nat} (hd : 3 ≤ d) {Q : Option Value → xM → Prop} {m : Nat} {Φ : (Nat → Nat → Int32) → xM} (hΦ : MLaw m Φ) {A : Nat → Int → Int} (hR : RG A) {x1 x2 x3 : Int} (rr : Rg x1 ∧ Rg x2 ∧ Rg x3) (h : (0 ≤ x3 ∧ x3 < 5) ∧ (0 ≤ x1 ∧ x1 < 8) ∧ (0 ≤ (0 : Int) ∧ (0 : Int) < 10) ∧ (∀ k : Int, 0 ≤ k → k ≤ (0 : Int) → 0 ≤ A 5 (10 * x3 + k) ∧ A 5 (10 * x3 + k) ≤ 999) ∧ (Rg (m_centre A x3 0)) ∧ (0 < (A 3 x3) ∧ (A 3 x3) ≤ 400) ∧ (-100000000 ≤ (0 : Int) ∧ (0 : Int) ≤ 100000000) ∧ (0 ≤ ((A 18 x1).tdiv 2) ∧ ((A 18 x1).tdiv 2) ≤ 100000000) ∧ (0 ≤ (m_centre A x3 0) ∧ (m_centre A x3 0) ≤ 100000000) ∧ wpE (xT 151) (xev xT d) Q (40, [(0, .ref m), (1, .int (iz x1)), (2, .int (iz x2)), (3, .int (iz x3)), (4, .int (iz (lst ((A 3 x3)) 0 ((A 18 x1).tdiv 2) (m_centre A x3 0)))), (5, .int (iz 0))], [], Φ (mI (UA (UA A 0 32 (A 3 x3)) 0 41 1000000)))) : wpE (xT 151) (xev xT d) Q (0, [(0, .ref m), (1, .int (iz x1)), (2, .int (iz x2)), (3, .int (iz x3))], [], Φ (mI A)) := by
  refine p_ald (cc3 c151_0) rfl ?_
  refine p_ald (cc3 c151_1) rfl ?_
  refine pm_getp hΦ (cc3 c151_2) (c := 3) rfl (by decide) ?_
  refine p_ild (cc3 c151_5) rfl ?_
  obtain ⟨g1, h⟩ := h
  refine n_aldi hΦ (c := 3) (n := 5) (ni := 5) (cc3 c151_6) (by decide) rfl rfl rfl (by decide) g1 (v := A 3 x3) rfl ?_
  refine (fun _ : Rg (A 3 x3) => n_puti hΦ (cc3 c151_7) (ji := 32) rfl ?_) (hR 3 x3)
  refine p_ald (cc3 c151_10) rfl ?_
  refine i_push (n := 1000000) (cc3 c151_11) zl_1000000 ?_
  refine (fun _ : Rg 1000000 => n_puti hΦ (cc3 c151_13) (ji := 41) rfl ?_) (by decide)
  refine p_ald (cc3 c151_16) rfl ?_
  refine i_push (n := 0) (cc3 c151_17) zl_0 ?_
  refine p_ald (cc3 c151_18) rfl ?_
  refine pm_getp hΦ (cc3 c151_19) (c := 18) rfl (by decide) ?_
  refine p_ild (cc3 c151_22) rfl ?_
  obtain ⟨g2, h⟩ := h
  refine n_aldi hΦ (c := 18) (n := 8) (ni := 8) (cc3 c151_23) (by decide) rfl rfl rfl (by decide) g2 (v := A 18 x1) (by first | rfl | exact UA_eq | simp [UA]) ?_
  refine i_push (n := 2) (cc3 c151_24) zl_2 ?_
  refine i_div (cc3 c151_25) (hR 18 x1) (by decide) ?_
  refine p_ald (cc3 c151_26) rfl ?_
  refine p_ild (cc3 c151_27) rfl ?_
  refine i_push (n := 0) (cc3 c151_28) zl_0 ?_
  obtain ⟨g3, h⟩ := h
  obtain ⟨g4, h⟩ := h
  refine p_callV (cc3 c151_29) (Nat.le_of_ble_eq_true rfl) rfl rfl (Nat.le_of_ble_eq_true rfl) (ml_kd hΦ) (S137 (Nat.le_trans (by decide) hd) hΦ (rg_UA (rg_UA hR (hR 3 x3)) (by decide)) ⟨rr.2.2, (by decide)⟩ ⟨g1, g3, g4⟩) ?_
  obtain ⟨g5, h⟩ := h
  obtain ⟨g6, h⟩ := h
  obtain ⟨g7, h⟩ := h
  obtain ⟨g8, h⟩ := h
  obtain ⟨g9, h⟩ := h
  refine p_callV (cc3 c151_32) (Nat.le_of_ble_eq_true rfl) rfl rfl (Nat.le_of_ble_eq_true rfl) (ml_kd hΦ) (S152 (Nat.le_trans (by decide) hd) hΦ (rg_UA (rg_UA hR (hR 3 x3)) (by decide)) ⟨(by decide), (rg_tdiv (hR 18 x1) (by decide : 0 < (2 : Int) ∧ (2 : Int) ≤ 2147483647).1), g5⟩ ⟨g6, g7, g8, g9⟩) ?_
  refine p_ist (ls' := [(4, .int (iz (lst ((A 3 x3)) 0 ((A 18 x1).tdiv 2) (m_centre A x3 0)))), (0, .ref m), (1, .int (iz x1)), (2, .int (iz x2)), (3, .int (iz x3))]) (cc3 c151_35) (by decide) rfl ?_
  refine i_push (n := 0) (cc3 c151_37) zl_0 ?_
  refine p_ist (ls' := [(5, .int (iz 0)), (4, .int (iz (lst ((A 3 x3)) 0 ((A 18 x1).tdiv 2) (m_centre A x3 0)))), (0, .ref m), (1, .int (iz x1)), (2, .int (iz x2)), (3, .int (iz x3))]) (cc3 c151_38) (by decide) rfl ?_
  exact p_lc (ls' := [(0, .ref m), (1, .int (iz x1)), (2, .int (iz x2)), (3, .int (iz x3)), (4, .int (iz (lst ((A 3 x3)) 0 ((A 18 x1).tdiv 2) (m_centre A x3 0)))), (5, .int (iz 0))]) c151_40 rfl rfl h
theorem V151_40 {d : Nat} (hd : 3 ≤ d) {Q : Option Value → xM → Prop} {m : Nat} {Φ : (Nat → Nat → Int32) → xM} (hΦ : MLaw m Φ) {A : Nat → Int → Int} (hR : RG A) {x1 x2 x3 x4 x5 : Int} (rr : Rg x1 ∧ Rg x2 ∧ Rg x3 ∧ Rg x4 ∧ Rg x5) (h : (((4 ≤ x5) → Q (some (.int (iz (A 0 41)))) (Φ (mI A))) ∧ (¬ (4 ≤ x5) → (Rg (x5 * (A 0 32))) ∧ (Rg (x4 + (x5 * (A 0 32)))) ∧ (0 ≤ x1 ∧ x1 < 8) ∧ (0 ≤ x2 ∧ x2 < 5) ∧ (0 ≤ A 9 x2 ∧ A 9 x2 ≤ 10) ∧ (Rg ((x4 + (x5 * (A 0 32))) + (A 18 x1))) ∧ ((¬ (m_isF A x2 (x4 + (x5 * (A 0 32))) (A 18 x1) = true) → ((¬ (A 11 x1 = 1 ∨ A 11 x1 = 3 ∨ A 11 x1 = 5) → wpE (xT 151) (xev xT d) Q (138, [(0, .ref m), (1, .int (iz x1)), (2, .int (iz x2)), (3, .int (iz x3)), (4, .int (iz x4)), (5, .int (iz x5)), (6, .int (iz (x4 + (x5 * (A 0 32))))), (7, .int (iz 1))], [], Φ (mI (UA A 29 0 ((x4 + (x5 * (A 0 32))) + (A 18 x1)))))) ∧ ((A 11 x1 = 1 ∨ A 11 x1 = 3 ∨ A 11 x1 = 5) → (0 ≤ x3 ∧ x3 < 5) ∧ (0 ≤ (A 16 x1) ∧ (A 16 x1) < 10) ∧ (∀ k : Int, 0 ≤ k → k ≤ (A 16 x1) → 0 ≤ A 5 (10 * x3 + k) ∧ A 5 (10 * x3 + k) ≤ 999) ∧ (Rg (m_centre A x3 (A 16 x1))) ∧ (0 < A 0 32 ∧ A 0 32 ≤ 400) ∧ (-100000000 ≤ ((x4 + (x5 * (A 0 32))) + (A 18 x1)) ∧ ((x4 + (x5 * (A 0 32))) + (A 18 x1)) ≤ 100000000) ∧ (0 ≤ ((A 17 x1).tdiv 2) ∧ ((A 17 x1).tdiv 2) ≤ 100000000) ∧ (0 ≤ (m_centre A x3 (A 16 x1)) ∧ (m_centre A x3 (A 16 x1)) ≤ 100000000) ∧ (Rg (lst (A 0 32) ((x4 + (x5 * (A 0 32))) + (A 18 x1)) ((A 17 x1).tdiv 2) (m_centre A x3 (A 16 x1)))) ∧ wpE (xT 151) (xev xT d) Q (138, [(0, .ref m), (1, .int (iz x1)), (2, .int (iz x2)), (3, .int (iz x3)), (4, .int (iz x4)), (5, .int (iz x5)), (6, .int (iz (x4 + (x5 * (A 0 32))))), (7, .int (iz 1))], [], Φ (mI (UA (UA A 29 0 ((x4 + (x5 * (A 0 32))) + (A 18 x1))) 29 0 (lst (A 0 32) ((x4 + (x5 * (A 0 32))) + (A 18 x1)) ((A 17 x1).tdiv 2) (m_centre A x3 (A 16 x1))))))))) ∧ ((m_isF A x2 (x4 + (x5 * (A 0 32))) (A 18 x1) = true) → (Rg (x5 + 1)) ∧ wpE (xT 151) (xev xT d) Q (40, [(0, .ref m), (1, .int (iz x1)), (2, .int (iz x2)), (3, .int (iz x3)), (4, .int (iz x4)), (5, .int (iz (x5 + 1)))], [], Φ (mI A))))))) : wpE (xT 151) (xev xT d) Q (40, [(0, .ref m), (1, .int (iz x1)), (2, .int (iz x2)), (3, .int (iz x3)), (4, .int (iz x4)), (5, .int (iz x5))], [], Φ (mI A)) := by
  refine p_ild (cct c151_40 rfl) rfl ?_
  refine i_push (n := 4) (cc3 c151_42) zl_4 ?_
  refine i_icmp (c' := 4 ≤ x5) (cc3 c151_43) (iz_le (by decide) rr.2.2.2.2) (fun c => ?_) (fun c => ?_)
  · have h := h.1 c
    refine p_ald (cc3 c151_216) rfl ?_
    refine n_geti hΦ (v := A 0 41) (cc3 c151_217) (ji := 41) rfl rfl ?_
    exact p_ri (cc3 c151_220) trivial h
  · have h := h.2 c
    refine p_ild (cc3 c151_46) rfl ?_
    refine p_ild (cc3 c151_48) rfl ?_
    refine p_ald (cc3 c151_50) rfl ?_
    refine n_geti hΦ (v := A 0 32) (cc3 c151_51) (ji := 32) rfl rfl ?_
    obtain ⟨g1, h⟩ := h
    refine (fun _ : Rg (x5 * (A 0 32)) => i_mul (cc3 c151_54) ?_) g1
    obtain ⟨g2, h⟩ := h
    refine (fun _ : Rg (x4 + (x5 * (A 0 32))) => i_add (cc3 c151_55) ?_) g2
    refine p_ist (ls' := [(6, .int (iz (x4 + (x5 * (A 0 32))))), (0, .ref m), (1, .int (iz x1)), (2, .int (iz x2)), (3, .int (iz x3)), (4, .int (iz x4)), (5, .int (iz x5))]) (cc3 c151_56) (by decide) rfl ?_
    refine p_ald (cc3 c151_58) rfl ?_
    refine p_ild (cc3 c151_59) rfl ?_
    refine p_ild (cc3 c151_60) rfl ?_
    refine p_ald (cc3 c151_62) rfl ?_
    refine pm_getp hΦ (cc3 c151_63) (c := 18) rfl (by decide) ?_
    refine p_ild (cc3 c151_66) rfl ?_
    obtain ⟨g3, h⟩ := h
    refine n_aldi hΦ (c := 18) (n := 8) (ni := 8) (cc3 c151_67) (by decide) rfl rfl rfl (by decide) g3 (v := A 18 x1) rfl ?_
    obtain ⟨g4, h⟩ := h
    obtain ⟨g5, h⟩ := h
    obtain ⟨g6, h⟩ := h
    refine p_callV (cc3 c151_68) (Nat.le_of_ble_eq_true rfl) rfl rfl (Nat.le_of_ble_eq_true rfl) (ml_kd hΦ) (S144 (Nat.le_trans (by decide) hd) hΦ hR ⟨rr.2.1, g2, (hR 18 x1)⟩ ⟨g4, g5, g6⟩) ?_
    refine i_ifB (cc3 c151_71) (fun c => ?_) (fun c => ?_)
    · have h := h.1 c
      refine p_ald (cc3 c151_77) rfl ?_
      refine pm_getp hΦ (cc3 c151_78) (c := 29) rfl (by decide) ?_
      refine i_push (n := 0) (cc3 c151_81) zl_0 ?_
      refine p_ild (cc3 c151_82) rfl ?_
      refine p_ald (cc3 c151_84) rfl ?_
      refine pm_getp hΦ (cc3 c151_85) (c := 18) rfl (by decide) ?_
      refine p_ild (cc3 c151_88) rfl ?_
      refine n_aldi hΦ (c := 18) (n := 8) (ni := 8) (cc3 c151_89) (by decide) rfl rfl rfl (by decide) g3 (v := A 18 x1) rfl ?_
      refine (fun _ : Rg ((x4 + (x5 * (A 0 32))) + (A 18 x1)) => i_add (cc3 c151_90) ?_) g6
      refine id (α := Rg ((x4 + (x5 * (A 0 32))) + (A 18 x1)) → _) (fun _ => ?_) g6; (first | refine n_asti hΦ (c := 29) (n := 24) (ni := 24) (hv := rfl) (cc3 c151_91) (by decide) rfl rfl rfl (by decide) (by decide) ?_)
      refine p_ald (cc3 c151_92) rfl ?_
      refine p_ild (cc3 c151_93) rfl ?_
      refine p_callV (cc3 c151_94) (Nat.le_of_ble_eq_true rfl) rfl rfl (Nat.le_of_ble_eq_true rfl) (ml_kd hΦ) (S150 (Nat.le_trans (by decide) hd) hΦ (rg_UA hR g6) rr.1 g3) ?_
      refine i_ifB (cc3 c151_97) (fun c => ?_) (fun c => ?_)
      · have h := h.1 c
        refine p_lc (ls' := [(0, .ref m), (1, .int (iz x1)), (2, .int (iz x2)), (3, .int (iz x3)), (4, .int (iz x4)), (5, .int (iz x5)), (6, .int (iz (x4 + (x5 * (A 0 32)))))]) c151_135 rfl rfl ?_
        refine i_push (n := 1) (cct c151_135 rfl) zl_1 ?_
        refine p_ist (ls' := [(7, .int (iz 1)), (0, .ref m), (1, .int (iz x1)), (2, .int (iz x2)), (3, .int (iz x3)), (4, .int (iz x4)), (5, .int (iz x5)), (6, .int (iz (x4 + (x5 * (A 0 32)))))]) (cc3 c151_136) (by decide) rfl ?_
        exact p_lc (ls' := [(0, .ref m), (1, .int (iz x1)), (2, .int (iz x2)), (3, .int (iz x3)), (4, .int (iz x4)), (5, .int (iz x5)), (6, .int (iz (x4 + (x5 * (A 0 32))))), (7, .int (iz 1))]) c151_138 rfl rfl h
      · have h := h.2 c
        refine p_ald (cc3 c151_100) rfl ?_
        refine pm_getp hΦ (cc3 c151_101) (c := 29) rfl (by decide) ?_
        refine i_push (n := 0) (cc3 c151_104) zl_0 ?_
        refine p_ald (cc3 c151_105) rfl ?_
        refine p_ald (cc3 c151_106) rfl ?_
        refine pm_getp hΦ (cc3 c151_107) (c := 29) rfl (by decide) ?_
        refine i_push (n := 0) (cc3 c151_110) zl_0 ?_
        refine n_aldi hΦ (c := 29) (n := 24) (ni := 24) (cc3 c151_111) (by decide) rfl rfl rfl (by decide) (by decide) (v := (x4 + (x5 * (A 0 32))) + (A 18 x1)) (by first | rfl | exact UA_eq | simp [UA]) ?_
        refine p_ald (cc3 c151_112) rfl ?_
        refine pm_getp hΦ (cc3 c151_113) (c := 17) rfl (by decide) ?_
        refine p_ild (cc3 c151_116) rfl ?_
        refine n_aldi hΦ (c := 17) (n := 8) (ni := 8) (cc3 c151_117) (by decide) rfl rfl rfl (by decide) g3 (v := A 17 x1) (by first | rfl | exact UA_eq | simp [UA]) ?_
        refine i_push (n := 2) (cc3 c151_118) zl_2 ?_
        refine i_div (cc3 c151_119) (hR 17 x1) (by decide) ?_
        refine p_ald (cc3 c151_120) rfl ?_
        refine p_ild (cc3 c151_121) rfl ?_
        refine p_ald (cc3 c151_122) rfl ?_
        refine pm_getp hΦ (cc3 c151_123) (c := 16) rfl (by decide) ?_
        refine p_ild (cc3 c151_126) rfl ?_
        refine n_aldi hΦ (c := 16) (n := 8) (ni := 8) (cc3 c151_127) (by decide) rfl rfl rfl (by decide) g3 (v := A 16 x1) (by first | rfl | exact UA_eq | simp [UA]) ?_
        obtain ⟨g7, h⟩ := h
        obtain ⟨g8, h⟩ := h
        obtain ⟨g9, h⟩ := h
        refine p_callV (cc3 c151_128) (Nat.le_of_ble_eq_true rfl) rfl rfl (Nat.le_of_ble_eq_true rfl) (ml_kd hΦ) (S137 (Nat.le_trans (by decide) hd) hΦ (rg_UA hR g6) ⟨rr.2.2.1, (hR 16 x1)⟩ ⟨g7, g8, g9⟩) ?_
        obtain ⟨g10, h⟩ := h
        obtain ⟨g11, h⟩ := h
        obtain ⟨g12, h⟩ := h
        obtain ⟨g13, h⟩ := h
        obtain ⟨g14, h⟩ := h
        refine p_callV (cc3 c151_131) (Nat.le_of_ble_eq_true rfl) rfl rfl (Nat.le_of_ble_eq_true rfl) (ml_kd hΦ) (S152 (Nat.le_trans (by decide) hd) hΦ (rg_UA hR g6) ⟨g6, (rg_tdiv (hR 17 x1) (by decide : 0 < (2 : Int) ∧ (2 : Int) ≤ 2147483647).1), g10⟩ ⟨g11, g12, g13, g14⟩) ?_
        obtain ⟨g15, h⟩ := h
        refine id (α := Rg (lst (A 0 32) ((x4 + (x5 * (A 0 32))) + (A 18 x1)) ((A 17 x1).tdiv 2) (m_centre A x3 (A 16 x1))) → _) (fun _ => ?_) g15; (first | refine n_asti hΦ (c := 29) (n := 24) (ni := 24) (hv := rfl) (cc3 c151_134) (by decide) rfl rfl rfl (by decide) (by decide) ?_)
        refine p_lc (ls' := [(0, .ref m), (1, .int (iz x1)), (2, .int (iz x2)), (3, .int (iz x3)), (4, .int (iz x4)), (5, .int (iz x5)), (6, .int (iz (x4 + (x5 * (A 0 32)))))]) c151_135 rfl rfl ?_
        refine i_push (n := 1) (cct c151_135 rfl) zl_1 ?_
        refine p_ist (ls' := [(7, .int (iz 1)), (0, .ref m), (1, .int (iz x1)), (2, .int (iz x2)), (3, .int (iz x3)), (4, .int (iz x4)), (5, .int (iz x5)), (6, .int (iz (x4 + (x5 * (A 0 32)))))]) (cc3 c151_136) (by decide) rfl ?_
        exact p_lc (ls' := [(0, .ref m), (1, .int (iz x1)), (2, .int (iz x2)), (3, .int (iz x3)), (4, .int (iz x4)), (5, .int (iz x5)), (6, .int (iz (x4 + (x5 * (A 0 32))))), (7, .int (iz 1))]) c151_138 rfl rfl h
    · have h := h.2 c
      refine p_goto (cc3 c151_74) ?_
      refine p_lc (ls' := [(0, .ref m), (1, .int (iz x1)), (2, .int (iz x2)), (3, .int (iz x3)), (4, .int (iz x4)), (5, .int (iz x5))]) c151_210 rfl rfl ?_
      obtain ⟨g7, h⟩ := h
      refine (fun _ : Rg (x5 + 1) => i_iinc (n := 1) (y := x5 + 1) (ls' := [(5, .int (iz (x5 + 1))), (0, .ref m), (1, .int (iz x1)), (2, .int (iz x2)), (3, .int (iz x3)), (4, .int (iz x4))]) (cct c151_210 rfl) (by decide) rfl zl_1 (by first | rfl | omega) rfl ?_) g7
      refine p_goto (cc3 c151_213) ?_
      exact p_lc (ls' := [(0, .ref m), (1, .int (iz x1)), (2, .int (iz x2)), (3, .int (iz x3)), (4, .int (iz x4)), (5, .int (iz (x5 + 1)))]) c151_40 rfl rfl h
theorem V151_138 {d : Nat} (hd : 3 ≤ d) {Q : Option Value → xM → Prop} {m : Nat} {Φ : (Nat → Nat → Int32) → xM} (hΦ : MLaw m Φ) {A : Nat → Int → Int} (hR : RG A) {x1 x2 x3 x4 x5 x6 x7 : Int} (rr : Rg x1 ∧ Rg x2 ∧ Rg x3 ∧ Rg x4 ∧ Rg x5 ∧ Rg x6 ∧ Rg x7) (h : (0 ≤ x1 ∧ x1 < 8) ∧ ((((A 15 x1) ≤ x7) → (LayC A x1 x2 x3) ∧ (BaseC A x1 x3) ∧ (∀ (A_1 : Nat → Int → Int), RG A_1 → (Fr [30] [36] A A_1 ∧ ∀ p : Int, 0 ≤ p → p < A 15 x1 → BestC A x1 x2 x3 p (A_1 30)) → ((((A_1 0 41) ≤ (A_1 30 0)) → (Rg (x5 + 1)) ∧ wpE (xT 151) (xev xT d) Q (40, [(0, .ref m), (1, .int (iz x1)), (2, .int (iz x2)), (3, .int (iz x3)), (4, .int (iz x4)), (5, .int (iz (x5 + 1)))], [], Φ (mI A_1))) ∧ (¬ ((A_1 0 41) ≤ (A_1 30 0)) → (LayC A_1 x1 x2 x3) ∧ (BaseC A_1 x1 x3) ∧ (∀ p : Int, 0 ≤ p → p < A_1 15 x1 → BestC A_1 x1 x2 x3 p (A_1 30)) ∧ (A_1 30 0 < 1000000) ∧ (∀ (A_2 : Nat → Int → Int), RG A_2 → (Fr [31, 32] [39, 40, 41] A_1 A_2 ∧ A_2 0 39 = x5 ∧ A_2 0 40 = x6 ∧ A_2 0 41 = A_1 30 0 ∧ ∀ p : Nat, (p : Int) < A_1 15 x1 → A_2 32 p = yxs A_1 x1 x2 x3 (A_1 29 0) p ∧ A_2 31 p = if (p : Int) = A_1 15 x1 - 1 then -1 else ypk A_1 x1 x2 x3 p (yxs A_1 x1 x2 x3 (A_1 29 0) p)) → (Rg (x5 + 1)) ∧ wpE (xT 151) (xev xT d) Q (40, [(0, .ref m), (1, .int (iz x1)), (2, .int (iz x2)), (3, .int (iz x3)), (4, .int (iz x4)), (5, .int (iz (x5 + 1)))], [], Φ (mI A_2))))))) ∧ (¬ ((A 15 x1) ≤ x7) → (Rg (x7 - 1)) ∧ (0 ≤ (x7 - 1) ∧ (x7 - 1) < 24) ∧ (4 ≤ A 15 x1) ∧ (0 ≤ A 17 x1 ∧ A 17 x1 ≤ 2000) ∧ (0 ≤ A 0 32 ∧ A 0 32 ≤ 400) ∧ (Rg ((A 29 (x7 - 1)) + (m_fixed A x1 (x7 - 1)))) ∧ (0 ≤ x7 ∧ x7 < 24) ∧ (Rg (x7 + 1)) ∧ wpE (xT 151) (xev xT d) Q (138, [(0, .ref m), (1, .int (iz x1)), (2, .int (iz x2)), (3, .int (iz x3)), (4, .int (iz x4)), (5, .int (iz x5)), (6, .int (iz x6)), (7, .int (iz (x7 + 1)))], [], Φ (mI (UA A 29 x7 ((A 29 (x7 - 1)) + (m_fixed A x1 (x7 - 1))))))))) : wpE (xT 151) (xev xT d) Q (138, [(0, .ref m), (1, .int (iz x1)), (2, .int (iz x2)), (3, .int (iz x3)), (4, .int (iz x4)), (5, .int (iz x5)), (6, .int (iz x6)), (7, .int (iz x7))], [], Φ (mI A)) := by
  refine p_ild (cct c151_138 rfl) rfl ?_
  refine p_ald (cc3 c151_140) rfl ?_
  refine pm_getp hΦ (cc3 c151_141) (c := 15) rfl (by decide) ?_
  refine p_ild (cc3 c151_144) rfl ?_
  obtain ⟨g1, h⟩ := h
  refine n_aldi hΦ (c := 15) (n := 8) (ni := 8) (cc3 c151_145) (by decide) rfl rfl rfl (by decide) g1 (v := A 15 x1) rfl ?_
  refine i_icmp (c' := (A 15 x1) ≤ x7) (cc3 c151_146) (iz_le (hR 15 x1) rr.2.2.2.2.2.2) (fun c => ?_) (fun c => ?_)
  · have h := h.1 c
    refine p_ald (cc3 c151_181) rfl ?_
    refine p_ild (cc3 c151_182) rfl ?_
    refine p_ild (cc3 c151_183) rfl ?_
    refine p_ild (cc3 c151_184) rfl ?_
    obtain ⟨g2, h⟩ := h
    obtain ⟨g3, h⟩ := h
    obtain ⟨A_1, he, hR_1, hp_1⟩ := S154 (A := A) (Nat.le_trans (by decide) hd) hΦ hR ⟨rr.1, rr.2.1, rr.2.2.1⟩ ⟨g2, g3⟩
    have h := h A_1 hR_1 hp_1
    refine p_callV (cc3 c151_185) (Nat.le_of_ble_eq_true rfl) rfl rfl (Nat.le_of_ble_eq_true rfl) (ml_kd hΦ) he ?_
    refine p_ald (cc3 c151_188) rfl ?_
    refine pm_getp hΦ (cc3 c151_189) (c := 30) rfl (by decide) ?_
    refine i_push (n := 0) (cc3 c151_192) zl_0 ?_
    refine n_aldi hΦ (c := 30) (n := 4800) (ni := 4800) (cc3 c151_193) (by decide) rfl rfl rfl (by decide) (by decide) (v := A_1 30 0) rfl ?_
    refine p_ald (cc3 c151_194) rfl ?_
    refine n_geti hΦ (v := A_1 0 41) (cc3 c151_195) (ji := 41) rfl rfl ?_
    refine i_icmp (c' := (A_1 0 41) ≤ (A_1 30 0)) (cc3 c151_198) (iz_le (hR_1 0 41) (hR_1 30 0)) (fun c => ?_) (fun c => ?_)
    · have h := h.1 c
      refine p_lc (ls' := [(0, .ref m), (1, .int (iz x1)), (2, .int (iz x2)), (3, .int (iz x3)), (4, .int (iz x4)), (5, .int (iz x5))]) c151_210 rfl rfl ?_
      obtain ⟨g4, h⟩ := h
      refine (fun _ : Rg (x5 + 1) => i_iinc (n := 1) (y := x5 + 1) (ls' := [(5, .int (iz (x5 + 1))), (0, .ref m), (1, .int (iz x1)), (2, .int (iz x2)), (3, .int (iz x3)), (4, .int (iz x4))]) (cct c151_210 rfl) (by decide) rfl zl_1 (by first | rfl | omega) rfl ?_) g4
      refine p_goto (cc3 c151_213) ?_
      exact p_lc (ls' := [(0, .ref m), (1, .int (iz x1)), (2, .int (iz x2)), (3, .int (iz x3)), (4, .int (iz x4)), (5, .int (iz (x5 + 1)))]) c151_40 rfl rfl h
    · have h := h.2 c
      refine p_ald (cc3 c151_201) rfl ?_
      refine p_ild (cc3 c151_202) rfl ?_
      refine p_ild (cc3 c151_203) rfl ?_
      refine p_ild (cc3 c151_205) rfl ?_
      obtain ⟨g4, h⟩ := h
      obtain ⟨g5, h⟩ := h
      obtain ⟨g6, h⟩ := h
      obtain ⟨g7, h⟩ := h
      obtain ⟨A_2, he, hR_2, hp_2⟩ := S158 (A := A_1) (Nat.le_trans (by decide) hd) hΦ hR_1 x2 x3 ⟨rr.1, rr.2.2.2.2.1, rr.2.2.2.2.2.1⟩ ⟨g4, g5, g6, g7⟩
      have h := h A_2 hR_2 hp_2
      refine p_callV (cc3 c151_207) (Nat.le_of_ble_eq_true rfl) rfl rfl (Nat.le_of_ble_eq_true rfl) (ml_kd hΦ) he ?_
      refine p_lc (ls' := [(0, .ref m), (1, .int (iz x1)), (2, .int (iz x2)), (3, .int (iz x3)), (4, .int (iz x4)), (5, .int (iz x5))]) c151_210 rfl rfl ?_
      obtain ⟨g8, h⟩ := h
      refine (fun _ : Rg (x5 + 1) => i_iinc (n := 1) (y := x5 + 1) (ls' := [(5, .int (iz (x5 + 1))), (0, .ref m), (1, .int (iz x1)), (2, .int (iz x2)), (3, .int (iz x3)), (4, .int (iz x4))]) (cct c151_210 rfl) (by decide) rfl zl_1 (by first | rfl | omega) rfl ?_) g8
      refine p_goto (cc3 c151_213) ?_
      exact p_lc (ls' := [(0, .ref m), (1, .int (iz x1)), (2, .int (iz x2)), (3, .int (iz x3)), (4, .int (iz x4)), (5, .int (iz (x5 + 1)))]) c151_40 rfl rfl h
  · have h := h.2 c
    refine p_ald (cc3 c151_149) rfl ?_
    refine pm_getp hΦ (cc3 c151_150) (c := 29) rfl (by decide) ?_
    refine p_ild (cc3 c151_153) rfl ?_
    refine p_ald (cc3 c151_155) rfl ?_
    refine pm_getp hΦ (cc3 c151_156) (c := 29) rfl (by decide) ?_
    refine p_ild (cc3 c151_159) rfl ?_
    refine i_push (n := 1) (cc3 c151_161) zl_1 ?_
    obtain ⟨g2, h⟩ := h
    refine (fun _ : Rg (x7 - 1) => i_sub (cc3 c151_162) ?_) g2
    obtain ⟨g3, h⟩ := h
    refine n_aldi hΦ (c := 29) (n := 24) (ni := 24) (cc3 c151_163) (by decide) rfl rfl rfl (by decide) g3 (v := A 29 (x7 - 1)) rfl ?_
    refine p_ald (cc3 c151_164) rfl ?_
    refine p_ild (cc3 c151_165) rfl ?_
    refine p_ild (cc3 c151_166) rfl ?_
    refine i_push (n := 1) (cc3 c151_168) zl_1 ?_
    refine (fun _ : Rg (x7 - 1) => i_sub (cc3 c151_169) ?_) g2
    obtain ⟨g4, h⟩ := h
    obtain ⟨g5, h⟩ := h
    obtain ⟨g6, h⟩ := h
    refine p_callV (cc3 c151_170) (Nat.le_of_ble_eq_true rfl) rfl rfl (Nat.le_of_ble_eq_true rfl) (ml_kd hΦ) (S153 (Nat.le_trans (by decide) hd) hΦ hR ⟨rr.1, g2⟩ ⟨g1, g4, g5, g6⟩) ?_
    obtain ⟨g7, h⟩ := h
    refine (fun _ : Rg ((A 29 (x7 - 1)) + (m_fixed A x1 (x7 - 1))) => i_add (cc3 c151_173) ?_) g7
    obtain ⟨g8, h⟩ := h
    refine id (α := Rg ((A 29 (x7 - 1)) + (m_fixed A x1 (x7 - 1))) → _) (fun _ => ?_) g7; refine n_asti hΦ (c := 29) (n := 24) (ni := 24) (hv := rfl) (cc3 c151_174) (by decide) rfl rfl rfl (by decide) g8 ?_
    obtain ⟨g9, h⟩ := h
    refine (fun _ : Rg (x7 + 1) => i_iinc (n := 1) (y := x7 + 1) (ls' := [(7, .int (iz (x7 + 1))), (0, .ref m), (1, .int (iz x1)), (2, .int (iz x2)), (3, .int (iz x3)), (4, .int (iz x4)), (5, .int (iz x5)), (6, .int (iz x6))]) (cc3 c151_175) (by decide) rfl zl_1 (by first | rfl | omega) rfl ?_) g9
    refine p_goto (cc3 c151_178) ?_
    exact p_lc (ls' := [(0, .ref m), (1, .int (iz x1)), (2, .int (iz x2)), (3, .int (iz x3)), (4, .int (iz x4)), (5, .int (iz x5)), (6, .int (iz x6)), (7, .int (iz (x7 + 1)))]) c151_138 rfl rfl h

theorem L151c {d : Nat} (hd : 3 ≤ d) {Q : Option Value → xM → Prop} {m : Nat} {Φ : (Nat → Nat → Int32) → xM} (hΦ : MLaw m Φ) {A0 : Nat → Int → Int} {k b s x4 : Int} {j : Nat} (hL : FindC A0 k b s) (hj : j < 4) (r4 : Rg x4) (hnf : ¬ m_isF A0 b (lyS A0 k s j) (A0 18 k) = true)
    (hX : 0 ≤ lyX A0 k s j ∧ lyX A0 k s j ≤ 4400) (hS : Rg (lyS A0 k s j))
    (hN : ∀ A', FInv A0 k b s (j + 1) A' → wpE (xT 151) (xev xT d) Q (40, [(0, .ref m), (1, .int (iz k)), (2, .int (iz b)), (3, .int (iz s)), (4, .int (iz x4)), (5, .int (iz ((j : Int) + 1)))], [], Φ (mI A'))) :
    ∀ (r p : Nat), 1 ≤ p → (p : Int) + r = A0 15 k → ∀ A, FInv A0 k b s j A → A 29 0 = lyX A0 k s j → (∀ q : Int, 0 ≤ q → q < p → 0 ≤ A 29 q ∧ A 29 q ≤ 4400 + 700 * q) → (∀ q : Int, 0 ≤ q → q + 1 < p → A 29 (q + 1) = A 29 q + yfx A0 k (A0 3 s) q) → wpE (xT 151) (xev xT d) Q (138, [(0, .ref m), (1, .int (iz k)), (2, .int (iz b)), (3, .int (iz s)), (4, .int (iz x4)), (5, .int (iz j)), (6, .int (iz (lyS A0 k s j))), (7, .int (iz p))], [], Φ (mI A)) := by
  obtain ⟨hL1, hL2⟩ := hL
  have hL' := hL1
  obtain ⟨a1, a2, a3, a4, a5, a6, a7, a8, a9, a10, a11⟩ := hL'
  have a8' : 4 ≤ A0 15 k ∧ A0 15 k ≤ 24 := a8
  have a9' : 1 ≤ A0 17 k ∧ A0 17 k ≤ 300 := a9
  have a5' : 1 ≤ A0 3 s ∧ A0 3 s ≤ 400 := a5
  intro r
  induction r with
  | zero =>
    intro p hp1 hp A hI h0 hb1 hb2
    obtain ⟨hR, hF, h32, h41, hfd⟩ := hI
    have hr := fr_ly hF
    have hLA : LayC A k b s := hL1.c (A := UA A0 0 32 (A0 3 s)) (fun c hc => by rw [hr c hc]; exact (funext fun i => (UA_c (by revert hc; simp [lyRows]; omega)).symm)) h32
    have e15 := hr 15 (by decide)
    have hB : BaseC A k s := ⟨fun q q1 q2 => by rw [e15] at q2; have := hb1 q q1 (by omega); omega, fun q q1 q2 => by rw [e15] at q2; rw [yfx_c hr, hr 3 (by decide)]; exact hb2 q q1 (by omega)⟩
    refine V151_138 hd hΦ hR (by omega) ?_
    refine ⟨a1, fun _ => ⟨hLA, hB, fun A1 hR1 hp1 => ?_⟩, fun h => absurd (show A 15 k ≤ p by rw [e15]; omega) h⟩
    obtain ⟨f1, f2⟩ := hp1
    have hr1 := fr_ly2 f1
    have e29 : A1 29 = A 29 := f1.1 29 (by decide) (by decide)
    have ef : ∀ i : Int, i = 39 ∨ i = 40 ∨ i = 41 ∨ i = 32 → A1 0 i = A 0 i := fun i hi => f1.2 i (by simp; omega)
    have e1 : A1 30 0 = lyG A0 k b s j := by
      have := f2 0 (Int.le_refl 0) (by rw [e15]; omega) 0 (Int.le_refl 0) (Int.le_refl 0)
      simp only [Int.mul_zero, Int.zero_mul, Int.add_zero, Int.sub_zero] at this
      rw [this, yG_c hr, e15, h0]
      unfold lyG
      rw [if_neg hnf]
    have hF1 : Fr [29, 30, 31, 32] [32, 36, 39, 40, 41] A0 A1 := hF.tr (f1.mono (fun c h => by revert h; simp; omega) (fun i h => by revert h; simp; omega))
    have eB : lyB A0 k b s (j + 1) = if lyG A0 k b s j < (lyB A0 k b s j).1 then (lyG A0 k b s j, (j : Int)) else lyB A0 k b s j := rfl
    rw [ef 41 (by omega), h41, e1]
    refine ⟨fun c => ⟨by omega, ?_⟩, fun c => ?_⟩
    · refine hN A1 ⟨hR1, hF1, by rw [ef 32 (by omega)]; exact h32, ?_, ?_⟩
      · rw [eB, if_neg (by omega), ef 41 (by omega)]; exact h41
      · rw [eB, if_neg (by omega)]; exact fun q => FoundC_c (hfd q) (ef 39 (by omega)) (ef 40 (by omega)) (f1.1 31 (by decide) (by decide)) (f1.1 32 (by decide) (by decide))
    · have hlt := lyB_le (A := A0) (k := k) (b := b) (s := s) j
      have hB1 : BaseC A1 k s := by
        unfold BaseC at *
        rw [e29, hr1 15 (by decide), yfx_c hr1, hr1 3 (by decide)]; exact hB
      refine ⟨hLA.c hr1 (ef 32 (by omega)), hB1, fun q q1 q2 => BestC_c hr1 e29 (f2 q q1 (by rw [hr1 15 (by decide)] at q2; exact q2)), by omega, fun A2 hR2 hp2 => ⟨by omega, ?_⟩⟩
      obtain ⟨g1, g2, g3, g4, g5⟩ := hp2
      refine hN A2 ⟨hR2, hF1.tr (g1.mono (fun c h => by revert h; simp; omega) (fun i h => by revert h; simp; omega)), by rw [g1.2 32 (by decide), ef 32 (by omega)]; exact h32, ?_, ?_⟩
      · rw [eB, if_pos (by omega), g4]
      · rw [eB, if_pos (by omega)]
        refine fun _ => ⟨g2, g3, fun q hq => ?_⟩
        have := g5 q (by rw [hr1 15 (by decide), e15]; exact hq)
        rw [yxs_c hr1, yxs_c hr, ypk_c hr1, ypk_c hr, e29, h0, hr1 15 (by decide), e15] at this
        exact this
  | succ r ih =>
    intro p hp1 hp A hI h0 hb1 hb2
    have hI' := hI
    obtain ⟨hR, hF, h32, h41, hfd⟩ := hI'
    have hr := fr_ly hF
    have e15 := hr 15 (by decide)
    have e17 := hr 17 (by decide)
    have efx : m_fixed A k ((p : Int) - 1) = yfx A0 k (A0 3 s) ((p : Int) - 1) := by rw [fixed_y, h32, yfx_c hr]
    have hbp := hb1 ((p : Int) - 1) (by omega) (by omega)
    have hyb := yfx_b (A := A0) (k := k) (P := A0 3 s) (p := (p : Int) - 1) a9' a5'
    refine V151_138 hd hΦ hR (by omega) ?_
    rw [efx, e15, e17, h32]
    refine ⟨a1, fun h => absurd h (by omega), fun _ => ⟨by omega, by omega, by omega, by omega, by omega, by omega, by omega, by omega, ?_⟩⟩
    refine ih (p + 1) (by omega) (by omega) _ ⟨rg_UA hR (by omega), hF.row (by decide) (by decide), by rw [UA_c (by decide)]; exact h32, by rw [UA_c (by decide)]; exact h41, fun q => FoundC_c (hfd q) (UA_c (by decide)) (UA_c (by decide)) (funext fun i => UA_c (by decide)) (funext fun i => UA_c (by decide))⟩ (by rw [UA_j (by omega)]; exact h0) (fun q q1 q2 => ?_) (fun q q1 q2 => ?_)
    · by_cases e : q = p
      · subst e; rw [UA_eq]; omega
      · rw [UA_j e]; exact hb1 q q1 (by omega)
    · by_cases e : q + 1 = p
      · rw [e, UA_eq, UA_j (by omega), show q = (p : Int) - 1 by omega]
      · rw [UA_j e, UA_j (by omega)]; exact hb2 q q1 (by omega)
theorem lyS_b {A0 : Nat → Int → Int} {k b s : Int} {j : Nat} (hL : FindC A0 k b s) (hj : j < 4) : (0 ≤ lyS A0 k s j ∧ lyS A0 k s j ≤ 1599) ∧ (0 ≤ lyX A0 k s j ∧ lyX A0 k s j ≤ 4400) ∧ (0 ≤ (A0 18 k).tdiv 2 ∧ (A0 18 k).tdiv 2 ≤ 2400) ∧ (0 ≤ m_centre A0 s 0 ∧ m_centre A0 s 0 ≤ 999) := by
  obtain ⟨hL1, hL2⟩ := hL
  obtain ⟨a1, a2, a3, a4, a5, a6, a7, a8, a9, a10, a11⟩ := hL1
  have a5' : 1 ≤ A0 3 s ∧ A0 3 s ≤ 400 := a5
  have a10' : 0 ≤ A0 18 k ∧ A0 18 k ≤ 2400 := a10
  have b1 := half_b a10'
  have b2 := centre0_b (A := A0) (s := s) a11
  have b3 := lst_b (P := A0 3 s) (f := 0) (a := (A0 18 k).tdiv 2) (c := m_centre A0 s 0) a5'
  have b4 := mul_b (a := (j : Int)) (b := A0 3 s) (M := 3) (N := 400) (by omega) (by omega) (by omega) (by omega)
  have b5 := lst_b (P := A0 3 s) (f := lyS A0 k s j + A0 18 k) (a := (A0 17 k).tdiv 2) (c := m_centre A0 s (A0 16 k)) a5'
  have e : lyS A0 k s j = lst (A0 3 s) 0 ((A0 18 k).tdiv 2) (m_centre A0 s 0) + j * A0 3 s := rfl
  refine ⟨by omega, ?_, b1, b2⟩
  unfold lyX
  split <;> omega
theorem L151 {d : Nat} (hd : 3 ≤ d) {Q : Option Value → xM → Prop} {m : Nat} {Φ : (Nat → Nat → Int32) → xM} (hΦ : MLaw m Φ) {A0 : Nat → Int → Int} {k b s : Int} (hL : FindC A0 k b s)
    (hQ : ∀ A', FInv A0 k b s 4 A' → Q (some (.int (iz (A' 0 41)))) (Φ (mI A'))) :
    ∀ (r j : Nat), j + r = 4 → ∀ A, FInv A0 k b s j A → wpE (xT 151) (xev xT d) Q (40, [(0, .ref m), (1, .int (iz k)), (2, .int (iz b)), (3, .int (iz s)), (4, .int (iz (lst (A0 3 s) 0 ((A0 18 k).tdiv 2) (m_centre A0 s 0)))), (5, .int (iz j))], [], Φ (mI A)) := by
  have hb0 := lyS_b (j := 0) hL (by omega)
  have hL0 := hL
  obtain ⟨hL1, hL2⟩ := hL
  have hL' := hL1
  obtain ⟨a1, a2, a3, a4, a5, a6, a7, a8, a9, a10, a11⟩ := hL'
  have a5' : 1 ≤ A0 3 s ∧ A0 3 s ≤ 400 := a5
  have a6' : 0 ≤ A0 9 b ∧ A0 9 b ≤ 10 := a6
  have a9' : 1 ≤ A0 17 k ∧ A0 17 k ≤ 300 := a9
  have a10' : 0 ≤ A0 18 k ∧ A0 18 k ≤ 2400 := a10
  have b3 := lst_b (P := A0 3 s) (f := 0) (a := (A0 18 k).tdiv 2) (c := m_centre A0 s 0) a5'
  intro r
  induction r with
  | zero =>
    intro j hj A hI
    have e4 : j = 4 := by omega
    subst e4
    refine V151_40 hd hΦ hI.1 (by omega) ?_
    exact ⟨fun _ => hQ A hI, fun h => absurd (show (4 : Int) ≤ ((4 : Nat) : Int) by omega) h⟩
  | succ r ih =>
    intro j hj A hI
    have hI' := hI
    obtain ⟨hR, hF, h32, h41, hfd⟩ := hI'
    have hr := fr_ly hF
    have hbj := lyS_b (j := j) hL0 (by omega)
    have b4 := mul_b (a := (j : Int)) (b := A0 3 s) (M := 3) (N := 400) (by omega) (by omega) (by omega) (by omega)
    have eS : lst (A0 3 s) 0 ((A0 18 k).tdiv 2) (m_centre A0 s 0) + (j : Int) * A0 3 s = lyS A0 k s j := rfl
    have eF : m_isF A = m_isF A0 := m_isF_c (hr 9 (by decide)) (hr 10 (by decide))
    have e16 : A 16 = A0 16 := hF.1 16 (by decide) (by decide)
    have hN := ih (j + 1) (by omega)
    rw [show ((j + 1 : Nat) : Int) = (j : Int) + 1 from rfl] at hN
    have hU : ∀ v : Int, Rg v → v = lyX A0 k s j → FInv A0 k b s j (UA A 29 0 v) ∧ (UA A 29 0 v) 29 0 = lyX A0 k s j := fun v hv he => ⟨⟨rg_UA hR hv, hF.row (by decide) (by decide), by rw [UA_c (by decide)]; exact h32, by rw [UA_c (by decide)]; exact h41, fun q => FoundC_c (hfd q) (UA_c (by decide)) (UA_c (by decide)) (funext fun i => UA_c (by decide)) (funext fun i => UA_c (by decide))⟩, by rw [UA_eq]; exact he⟩
    have eX : lyX A0 k s j = if strd A0 k then lst (A0 3 s) (lyS A0 k s j + A0 18 k) ((A0 17 k).tdiv 2) (m_centre A0 s (A0 16 k)) else lyS A0 k s j + A0 18 k := rfl
    have hflaw : m_isF A0 b (lyS A0 k s j) (A0 18 k) = true → FInv A0 k b s (j + 1) A := fun c1 => by
      have hlt := lyB_le (A := A0) (k := k) (b := b) (s := s) j
      have e3 : lyG A0 k b s j = 1000000 := by unfold lyG; rw [if_pos c1]
      have eB : lyB A0 k b s (j + 1) = lyB A0 k b s j := by
        show (if lyG A0 k b s j < (lyB A0 k b s j).1 then (lyG A0 k b s j, (j : Int)) else lyB A0 k b s j) = _
        rw [if_neg (by omega)]
      exact ⟨hR, hF, h32, by rw [eB]; exact h41, by rw [eB]; exact hfd⟩
    refine V151_40 hd hΦ hR (by omega) ?_
    rw [h32, hr 18 (by decide), hr 17 (by decide), hr 11 (by decide), hr 9 (by decide), hr 5 (by decide), eF, e16, m_centre_c (hr 5 (by decide)), eS]
    refine ⟨fun h => absurd h (by omega), fun _ => ⟨by omega, by omega, a1, a2, a6', by omega, fun c1 => ⟨fun c2 => ?_, fun c2 => ?_⟩, fun c1 => ⟨by omega, hN A (hflaw c1)⟩⟩⟩
    · have hu := hU (lyS A0 k s j + A0 18 k) (by omega) (by rw [eX, if_neg c2])
      have := L151c hd hΦ hL0 (by omega) (show Rg (lst (A0 3 s) 0 ((A0 18 k).tdiv 2) (m_centre A0 s 0)) by omega) c1 hbj.2.1 (by omega) hN (A0 15 k - 1).toNat 1 (Nat.le_refl 1) (by have : 4 ≤ A0 15 k := a8.1; omega) _ hu.1 hu.2 (fun q q1 q2 => by rw [show q = 0 by omega, hu.2]; have := hbj.2.1; omega) (fun q q1 q2 => by omega)
      exact this
    · obtain ⟨k1, k2⟩ := hL2 c2
      have hc := centre_b k1 k2
      have hh := half_b (x := A0 17 k) (M := 300) (by omega)
      have hu := hU (lst (A0 3 s) (lyS A0 k s j + A0 18 k) ((A0 17 k).tdiv 2) (m_centre A0 s (A0 16 k))) (by have := hbj.2.1; rw [eX, if_pos c2] at this; omega) (by rw [eX, if_pos c2])
      have e2 : UA (UA A 29 0 (lyS A0 k s j + A0 18 k)) 29 0 (lst (A0 3 s) (lyS A0 k s j + A0 18 k) ((A0 17 k).tdiv 2) (m_centre A0 s (A0 16 k))) = UA A 29 0 (lst (A0 3 s) (lyS A0 k s j + A0 18 k) ((A0 17 k).tdiv 2) (m_centre A0 s (A0 16 k))) := by
        funext c i; unfold UA; split <;> rfl
      have hx := hbj.2.1
      rw [eX, if_pos c2] at hx
      rw [e2]
      refine ⟨a3, k1, fun q q1 q2 => by have := k2 q q1 q2; omega, hc.2.2, by omega, by omega, by omega, by omega, by omega, ?_⟩
      exact L151c hd hΦ hL0 (by omega) (show Rg (lst (A0 3 s) 0 ((A0 18 k).tdiv 2) (m_centre A0 s 0)) by omega) c1 hbj.2.1 (by omega) hN (A0 15 k - 1).toNat 1 (Nat.le_refl 1) (by have : 4 ≤ A0 15 k := a8.1; omega) _ hu.1 hu.2 (fun q q1 q2 => by rw [show q = 0 by omega, hu.2]; have := hbj.2.1; omega) (fun q q1 q2 => by omega)
theorem S151 {d : Nat} (hd : 4 ≤ d) {m : Nat} {Φ : (Nat → Nat → Int32) → xM} (hΦ : MLaw m Φ) {A : Nat → Int → Int} (hR : RG A) {x1 x2 x3 : Int} (rr : Rg x1 ∧ Rg x2 ∧ Rg x3) (hp : (FindC A x1 x2 x3)) : ∃ (r : Int) (A' : Nat → Int → Int), xev xT d 151 [.ref m, .int (iz x1), .int (iz x2), .int (iz x3)] (Φ (mI A)) (some (.int (iz r))) (Φ (mI A')) ∧ Rg r ∧ RG A' ∧ (Fr [29, 30, 31, 32] [32, 36, 39, 40, 41] A A' ∧ r = (lyB A x1 x2 x3 4).1 ∧ A' 0 32 = A 3 x3 ∧ A' 0 41 = r ∧ (r < 1000000 → FoundC A A' x1 x2 x3 (lyB A x1 x2 x3 4).2)) := by
  refine xev_g (i := 151) (as := [.ref m, .int (iz x1), .int (iz x2), .int (iz x3)]) (σ := Φ (mI A)) (Q := fun r_ σ_ => ∃ (r : Int) (A' : Nat → Int → Int), r_ = (some (.int (iz r))) ∧ σ_ = Φ (mI A') ∧ Rg r ∧ RG A' ∧ (Fr [29, 30, 31, 32] [32, 36, 39, 40, 41] A A' ∧ r = (lyB A x1 x2 x3 4).1 ∧ A' 0 32 = A 3 x3 ∧ A' 0 41 = r ∧ (r < 1000000 → FoundC A A' x1 x2 x3 (lyB A x1 x2 x3 4).2))) (D := 3) hd (Nat.le_of_ble_eq_true rfl) (fun r_ σ_ he hq => ?_) (fun d hd => V151_0 hd hΦ hR rr ?_)
  · obtain ⟨r, A', rfl, rfl, hq⟩ := hq
    exact ⟨r, A', he, hq⟩

  have hb := lyS_b (j := 0) hp (by omega)
  have hp0 := hp
  obtain ⟨hL1, hL2⟩ := hp
  obtain ⟨a1, a2, a3, a4, a5, a6, a7, a8, a9, a10, a11⟩ := hL1
  have a5' : 1 ≤ A 3 x3 ∧ A 3 x3 ≤ 400 := a5
  have a11' : 1 ≤ A 5 (10 * x3) ∧ A 5 (10 * x3) ≤ 999 := a11
  refine ⟨a3, a1, by omega, fun q q1 q2 => by rw [show q = 0 by omega, Int.add_zero]; omega, by omega, by omega, by omega, by omega, by omega, ?_⟩
  refine L151 hd hΦ hp0 (fun A' hI => ?_) 4 0 rfl _ ⟨rg_UA (rg_UA hR (by omega)) (by decide), (Fr.rf.fld (by decide)).fld (by decide), rfl, rfl, fun h => absurd h (by simp [lyB])⟩
  obtain ⟨hR', hF', h32, h41, hfd⟩ := hI
  exact ⟨_, A', rfl, rfl, hR' _ _, hR', hF', h41, h32, rfl, fun q => hfd (by rw [← h41]; exact q)⟩
