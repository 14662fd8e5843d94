/-- which pleat shows the place, and how far within -/
def shp (w : Int → Int) : Nat → Int → Int → Int × Int
  | 0, p, l => (p, l)
  | r + 1, p, l => if l < w p then (p, l) else shp w r (p + 1) (l - w p)
def m_wd (A : Nat → Int → Int) (k t : Int) : Int → Int := fun p => A 25 k - (if t = 0 then 0 else m_loses A k p)
def m_shq (A : Nat → Int → Int) (k t p l : Int) : Int := m_col A (A 7 (A 20 k)) (A 26 (24 * k + p) + l + (if t = 0 then 0 else (m_loses A k p).tdiv 2))
def m_shown (A : Nat → Int → Int) (k i t : Int) : Int := if 0 ≤ k ∧ k ≤ A 0 13 - 1 then (if A 20 k < 0 then -3 else if 0 ≤ i ∧ i ≤ m_aro A k t - 1 then (fun q : Int × Int => m_shq A k t q.1 q.2) (shp (m_wd A k t) (A 15 k).toNat 0 (if A 28 k = 0 then i else m_aro A k t - 1 - i)) else -1) else -2
theorem sm_loses {A : Nat → Int → Int} {k : Int} {n : Nat} : sm (m_loses A k) n = ((n : Int) * A 19 k).tdiv (A 15 k) := by
  induction n with
  | zero => simp [sm]
  | succ n ih =>
    simp only [sm]; rw [ih]; unfold m_loses
    rw [show ((n + 1 : Nat) : Int) = (n : Int) + 1 from rfl]; omega
theorem sm_const {c : Int} {n : Nat} : sm (fun _ => c) n = n * c := by
  induction n with
  | zero => simp [sm]
  | succ n ih => simp only [sm]; rw [ih, show ((n + 1 : Nat) : Int) = (n : Int) + 1 from rfl, Int.add_mul]; omega
theorem sm_sub {f g : Int → Int} {n : Nat} : sm (fun i => f i - g i) n = sm f n - sm g n := by
  induction n with
  | zero => rfl
  | succ n ih => simp only [sm]; rw [ih]; omega
theorem sm_wd {A : Nat → Int → Int} {k t : Int} (h : 0 < A 15 k) (h2 : 0 ≤ A 19 k) : sm (m_wd A k t) (A 15 k).toNat = m_aro A k t := by
  have e : ((A 15 k).toNat : Int) = A 15 k := Int.toNat_of_nonneg (by omega)
  by_cases ht : t = 0
  · have : m_wd A k t = fun _ => A 25 k := by funext p; simp [m_wd, ht]
    rw [this, sm_const, e]; unfold m_aro; rw [if_pos ht]; omega
  · have : m_wd A k t = fun p => (fun _ => A 25 k) p - m_loses A k p := by funext p; simp [m_wd, ht]
    rw [this, sm_sub, sm_const, sm_loses, e, Int.mul_tdiv_cancel_left _ (by omega)]; unfold m_aro; rw [if_neg ht]
theorem shp_ok {w : Int → Int} : ∀ (r : Nat) (p : Nat) (l : Int), 0 ≤ l → l < sm w (p + r) - sm w p → ∃ q : Nat, p ≤ q ∧ q < p + r ∧ (shp w r p l).1 = q ∧ 0 ≤ (shp w r p l).2 ∧ (shp w r p l).2 < w q := by
  intro r
  induction r with
  | zero => intro p l h1 h2; simp at h2; omega
  | succ r ih =>
    intro p l h1 h2
    unfold shp
    by_cases h : l < w p
    · rw [if_pos h]; exact ⟨p, Nat.le_refl _, by omega, rfl, h1, h⟩
    · rw [if_neg h]
      have e1 : sm w (p + 1) = sm w p + w p := rfl
      obtain ⟨q, a1, a2, a3, a4, a5⟩ := ih (p + 1) (l - w p) (by omega) (by rw [show p + 1 + r = p + (r + 1) by omega]; omega)
      exact ⟨q, by omega, by omega, a3, a4, a5⟩
theorem V164_0 {d : Nat} (hd : 3 ≤ d) {Q : Option Value → xM → Prop} {m : Nat} {Φ : (Nat → Nat → Int32) → xM} (hΦ : MLaw m Φ) {A : Nat → Int → Int} (hR : RG A) {x1 x2 x3 : Int} (rr : Rg x1 ∧ Rg x2 ∧ Rg x3) (h : (0 ≤ A 0 13) ∧ ((¬ (0 ≤ x1 ∧ x1 ≤ A 0 13 - 1) → Q (some (.int (iz (-2)))) (Φ (mI A))) ∧ ((0 ≤ x1 ∧ x1 ≤ A 0 13 - 1) → (0 ≤ A 0 13 ∧ A 0 13 ≤ 8) ∧ ((¬ ((0 ≤ x1 ∧ x1 ≤ A 0 13 - 1) ∧ 0 ≤ A 20 x1) → Q (some (.int (iz (-3)))) (Φ (mI A))) ∧ (((0 ≤ x1 ∧ x1 ≤ A 0 13 - 1) ∧ 0 ≤ A 20 x1) → (0 ≤ x1 ∧ x1 < 8) ∧ (0 ≤ A 15 x1 ∧ A 15 x1 ≤ 24) ∧ (0 ≤ A 25 x1 ∧ A 25 x1 ≤ 10000) ∧ (0 ≤ A 19 x1 ∧ A 19 x1 ≤ 1000) ∧ (Rg ((A 15 x1 * A 25 x1 - (if x3 = 0 then 0 else A 19 x1)) - 1)) ∧ ((¬ (0 ≤ x2 ∧ x2 ≤ ((A 15 x1 * A 25 x1 - (if x3 = 0 then 0 else A 19 x1)) - 1)) → Q (some (.int (iz (-1)))) (Φ (mI A))) ∧ ((0 ≤ x2 ∧ x2 ≤ ((A 15 x1 * A 25 x1 - (if x3 = 0 then 0 else A 19 x1)) - 1)) → ((((A 28 x1) = 0) → wpE (xT 164) (xev xT d) Q (69, [(0, .ref m), (1, .int (iz x1)), (3, .int (iz x3)), (4, .int (iz x2)), (5, .int (iz 0))], [], Φ (mI A))) ∧ (¬ ((A 28 x1) = 0) → (Rg (((A 15 x1 * A 25 x1 - (if x3 = 0 then 0 else A 19 x1)) - 1) - x2)) ∧ wpE (xT 164) (xev xT d) Q (69, [(0, .ref m), (1, .int (iz x1)), (3, .int (iz x3)), (4, .int (iz (((A 15 x1 * A 25 x1 - (if x3 = 0 then 0 else A 19 x1)) - 1) - x2))), (5, .int (iz 0))], [], Φ (mI A))))))))))) : wpE (xT 164) (xev xT d) Q (0, [(0, .ref m), (1, .int (iz x1)), (2, .int (iz x2)), (3, .int (iz x3))], [], Φ (mI A)) := by
  refine p_ald (cc3 c164_0) rfl ?_
  refine p_ild (cc3 c164_1) rfl ?_
  obtain ⟨g1, h⟩ := h
  refine p_callV (cc3 c164_2) (Nat.le_of_ble_eq_true rfl) rfl rfl (Nat.le_of_ble_eq_true rfl) (ml_kd hΦ) (S147 (Nat.le_trans (by decide) hd) hΦ hR rr.1 g1) ?_
  refine i_ifB (cc3 c164_5) (fun c => ?_) (fun c => ?_)
  · have h := h.1 c
    refine i_push (n := (-2)) (cc3 c164_8) zl_m2 ?_
    exact p_ri (cc3 c164_10) trivial h
  · have h := h.2 c
    refine p_ald (cc3 c164_11) rfl ?_
    refine p_ild (cc3 c164_12) rfl ?_
    obtain ⟨g2, h⟩ := h
    refine p_callV (cc3 c164_13) (Nat.le_of_ble_eq_true rfl) rfl rfl (Nat.le_of_ble_eq_true rfl) (ml_kd hΦ) (S160 (Nat.le_trans (by decide) hd) hΦ hR rr.1 g2) ?_
    refine i_ifB (cc3 c164_16) (fun c => ?_) (fun c => ?_)
    · have h := h.1 c
      refine i_push (n := (-3)) (cc3 c164_19) zl_m3 ?_
      exact p_ri (cc3 c164_21) trivial h
    · have h := h.2 c
      refine p_ald (cc3 c164_22) rfl ?_
      refine p_ild (cc3 c164_23) rfl ?_
      refine i_push (n := 0) (cc3 c164_24) zl_0 ?_
      refine p_ald (cc3 c164_25) rfl ?_
      refine p_ild (cc3 c164_26) rfl ?_
      refine p_ild (cc3 c164_27) rfl ?_
      obtain ⟨g3, h⟩ := h
      obtain ⟨g4, h⟩ := h
      obtain ⟨g5, h⟩ := h
      obtain ⟨g6, h⟩ := h
      refine p_callV (cc3 c164_28) (Nat.le_of_ble_eq_true rfl) rfl rfl (Nat.le_of_ble_eq_true rfl) (ml_kd hΦ) (S165 (Nat.le_trans (by decide) hd) hΦ hR ⟨rr.1, rr.2.2⟩ ⟨g3, g4, g5, g6⟩) ?_
      refine i_push (n := 1) (cc3 c164_31) zl_1 ?_
      obtain ⟨g7, h⟩ := h
      refine (fun _ : Rg ((A 15 x1 * A 25 x1 - (if x3 = 0 then 0 else A 19 x1)) - 1) => i_sub (cc3 c164_32) ?_) g7
      refine p_callV (cc3 c164_33) (Nat.le_of_ble_eq_true rfl) rfl rfl (Nat.le_of_ble_eq_true rfl) (ml_kd hΦ) (S129 (Nat.le_trans (by decide) hd) hΦ hR ⟨rr.2.1, (by decide), g7⟩) ?_
      refine i_ifB (cc3 c164_36) (fun c => ?_) (fun c => ?_)
      · have h := h.1 c
        refine i_push (n := (-1)) (cc3 c164_39) zl_m1 ?_
        exact p_ri (cc3 c164_40) trivial h
      · have h := h.2 c
        refine p_ald (cc3 c164_41) rfl ?_
        refine pm_getp hΦ (cc3 c164_42) (c := 28) rfl (by decide) ?_
        refine p_ild (cc3 c164_45) rfl ?_
        refine n_aldi hΦ (c := 28) (n := 8) (ni := 8) (cc3 c164_46) (by decide) rfl rfl rfl (by decide) g3 (v := A 28 x1) rfl ?_
        refine i_if (c' := (A 28 x1) = 0) (cc3 c164_47) (c_eq0 (hR 28 x1)) (fun c => ?_) (fun c => ?_)
        · have h := h.1 c
          refine p_ild (cc3 c164_63) rfl ?_
          refine p_lc (ls' := [(0, .ref m), (1, .int (iz x1)), (3, .int (iz x3))]) c164_64 rfl rfl ?_
          refine p_ist (ls' := [(4, .int (iz x2)), (0, .ref m), (1, .int (iz x1)), (3, .int (iz x3))]) (cct c164_64 rfl) (by decide) rfl ?_
          refine i_push (n := 0) (cc3 c164_66) zl_0 ?_
          refine p_ist (ls' := [(5, .int (iz 0)), (4, .int (iz x2)), (0, .ref m), (1, .int (iz x1)), (3, .int (iz x3))]) (cc3 c164_67) (by decide) rfl ?_
          exact p_lc (ls' := [(0, .ref m), (1, .int (iz x1)), (3, .int (iz x3)), (4, .int (iz x2)), (5, .int (iz 0))]) c164_69 rfl rfl h
        · have h := h.2 c
          refine p_ald (cc3 c164_50) rfl ?_
          refine p_ild (cc3 c164_51) rfl ?_
          refine p_ild (cc3 c164_52) rfl ?_
          refine p_callV (cc3 c164_53) (Nat.le_of_ble_eq_true rfl) rfl rfl (Nat.le_of_ble_eq_true rfl) (ml_kd hΦ) (S165 (Nat.le_trans (by decide) hd) hΦ hR ⟨rr.1, rr.2.2⟩ ⟨g3, g4, g5, g6⟩) ?_
          refine i_push (n := 1) (cc3 c164_56) zl_1 ?_
          refine (fun _ : Rg ((A 15 x1 * A 25 x1 - (if x3 = 0 then 0 else A 19 x1)) - 1) => i_sub (cc3 c164_57) ?_) g7
          refine p_ild (cc3 c164_58) rfl ?_
          obtain ⟨g8, h⟩ := h
          refine (fun _ : Rg (((A 15 x1 * A 25 x1 - (if x3 = 0 then 0 else A 19 x1)) - 1) - x2) => i_sub (cc3 c164_59) ?_) g8
          refine p_goto (cc3 c164_60) ?_
          refine p_lc (ls' := [(0, .ref m), (1, .int (iz x1)), (3, .int (iz x3))]) c164_64 rfl rfl ?_
          refine p_ist (ls' := [(4, .int (iz (((A 15 x1 * A 25 x1 - (if x3 = 0 then 0 else A 19 x1)) - 1) - x2))), (0, .ref m), (1, .int (iz x1)), (3, .int (iz x3))]) (cct c164_64 rfl) (by decide) rfl ?_
          refine i_push (n := 0) (cc3 c164_66) zl_0 ?_
          refine p_ist (ls' := [(5, .int (iz 0)), (4, .int (iz (((A 15 x1 * A 25 x1 - (if x3 = 0 then 0 else A 19 x1)) - 1) - x2))), (0, .ref m), (1, .int (iz x1)), (3, .int (iz x3))]) (cc3 c164_67) (by decide) rfl ?_
          exact p_lc (ls' := [(0, .ref m), (1, .int (iz x1)), (3, .int (iz x3)), (4, .int (iz (((A 15 x1 * A 25 x1 - (if x3 = 0 then 0 else A 19 x1)) - 1) - x2))), (5, .int (iz 0))]) c164_69 rfl rfl h
theorem V164_69 {d : Nat} (hd : 3 ≤ d) {Q : Option Value → xM → Prop} {m : Nat} {Φ : (Nat → Nat → Int32) → xM} (hΦ : MLaw m Φ) {A : Nat → Int → Int} (hR : RG A) {x1 x3 x4 x5 : Int} (rr : Rg x1 ∧ Rg x3 ∧ Rg x4 ∧ Rg x5) (h : (0 ≤ x1 ∧ x1 < 8) ∧ (((x3 = 0) → (Rg ((A 25 x1) - 0)) ∧ (((x4 < ((A 25 x1) - 0)) → (0 ≤ (A 20 x1) ∧ (A 20 x1) < 5) ∧ (Rg (24 * x1)) ∧ (Rg ((24 * x1) + x5)) ∧ (0 ≤ ((24 * x1) + x5) ∧ ((24 * x1) + x5) < 192) ∧ (Rg ((A 26 ((24 * x1) + x5)) + x4)) ∧ (((x3 = 0) → (Rg (((A 26 ((24 * x1) + x5)) + x4) + 0)) ∧ (0 ≤ (A 7 (A 20 x1)) ∧ (A 7 (A 20 x1)) < 5) ∧ (0 < A 3 (A 7 (A 20 x1))) ∧ (0 ≤ A 2 (A 7 (A 20 x1)) ∧ A 2 (A 7 (A 20 x1)) ≤ 10) ∧ (0 ≤ (((A 26 ((24 * x1) + x5)) + x4) + 0)) ∧ (∀ k : Int, 0 ≤ k → k < A 2 (A 7 (A 20 x1)) → 0 ≤ A 5 (10 * (A 7 (A 20 x1)) + k)) ∧ Q (some (.int (iz (m_col A (A 7 (A 20 x1)) (((A 26 ((24 * x1) + x5)) + x4) + 0))))) (Φ (mI A))) ∧ (¬ (x3 = 0) → (0 ≤ x5 ∧ x5 ≤ 24) ∧ (0 ≤ A 19 x1 ∧ A 19 x1 ≤ 1000) ∧ (0 < A 15 x1) ∧ (Rg (m_loses A x1 x5)) ∧ (Rg (((A 26 ((24 * x1) + x5)) + x4) + ((m_loses A x1 x5).tdiv 2))) ∧ (0 ≤ (A 7 (A 20 x1)) ∧ (A 7 (A 20 x1)) < 5) ∧ (0 < A 3 (A 7 (A 20 x1))) ∧ (0 ≤ A 2 (A 7 (A 20 x1)) ∧ A 2 (A 7 (A 20 x1)) ≤ 10) ∧ (0 ≤ (((A 26 ((24 * x1) + x5)) + x4) + ((m_loses A x1 x5).tdiv 2))) ∧ (∀ k : Int, 0 ≤ k → k < A 2 (A 7 (A 20 x1)) → 0 ≤ A 5 (10 * (A 7 (A 20 x1)) + k)) ∧ Q (some (.int (iz (m_col A (A 7 (A 20 x1)) (((A 26 ((24 * x1) + x5)) + x4) + ((m_loses A x1 x5).tdiv 2)))))) (Φ (mI A))))) ∧ (¬ (x4 < ((A 25 x1) - 0)) → (((x3 = 0) → (Rg (x4 - ((A 25 x1) - 0))) ∧ (Rg (x5 + 1)) ∧ wpE (xT 164) (xev xT d) Q (69, [(0, .ref m), (1, .int (iz x1)), (3, .int (iz x3)), (4, .int (iz (x4 - ((A 25 x1) - 0)))), (5, .int (iz (x5 + 1)))], [], Φ (mI A))) ∧ (¬ (x3 = 0) → (0 ≤ x5 ∧ x5 ≤ 24) ∧ (0 ≤ A 19 x1 ∧ A 19 x1 ≤ 1000) ∧ (0 < A 15 x1) ∧ (Rg ((A 25 x1) - (m_loses A x1 x5))) ∧ (Rg (x4 - ((A 25 x1) - (m_loses A x1 x5)))) ∧ (Rg (x5 + 1)) ∧ wpE (xT 164) (xev xT d) Q (69, [(0, .ref m), (1, .int (iz x1)), (3, .int (iz x3)), (4, .int (iz (x4 - ((A 25 x1) - (m_loses A x1 x5))))), (5, .int (iz (x5 + 1)))], [], Φ (mI A))))))) ∧ (¬ (x3 = 0) → (0 ≤ x5 ∧ x5 ≤ 24) ∧ (0 ≤ A 19 x1 ∧ A 19 x1 ≤ 1000) ∧ (0 < A 15 x1) ∧ (Rg ((A 25 x1) - (m_loses A x1 x5))) ∧ (((x4 < ((A 25 x1) - (m_loses A x1 x5))) → (0 ≤ (A 20 x1) ∧ (A 20 x1) < 5) ∧ (Rg (24 * x1)) ∧ (Rg ((24 * x1) + x5)) ∧ (0 ≤ ((24 * x1) + x5) ∧ ((24 * x1) + x5) < 192) ∧ (Rg ((A 26 ((24 * x1) + x5)) + x4)) ∧ (((x3 = 0) → (Rg (((A 26 ((24 * x1) + x5)) + x4) + 0)) ∧ (0 ≤ (A 7 (A 20 x1)) ∧ (A 7 (A 20 x1)) < 5) ∧ (0 < A 3 (A 7 (A 20 x1))) ∧ (0 ≤ A 2 (A 7 (A 20 x1)) ∧ A 2 (A 7 (A 20 x1)) ≤ 10) ∧ (0 ≤ (((A 26 ((24 * x1) + x5)) + x4) + 0)) ∧ (∀ k : Int, 0 ≤ k → k < A 2 (A 7 (A 20 x1)) → 0 ≤ A 5 (10 * (A 7 (A 20 x1)) + k)) ∧ Q (some (.int (iz (m_col A (A 7 (A 20 x1)) (((A 26 ((24 * x1) + x5)) + x4) + 0))))) (Φ (mI A))) ∧ (¬ (x3 = 0) → (Rg (m_loses A x1 x5)) ∧ (Rg (((A 26 ((24 * x1) + x5)) + x4) + ((m_loses A x1 x5).tdiv 2))) ∧ (0 ≤ (A 7 (A 20 x1)) ∧ (A 7 (A 20 x1)) < 5) ∧ (0 < A 3 (A 7 (A 20 x1))) ∧ (0 ≤ A 2 (A 7 (A 20 x1)) ∧ A 2 (A 7 (A 20 x1)) ≤ 10) ∧ (0 ≤ (((A 26 ((24 * x1) + x5)) + x4) + ((m_loses A x1 x5).tdiv 2))) ∧ (∀ k : Int, 0 ≤ k → k < A 2 (A 7 (A 20 x1)) → 0 ≤ A 5 (10 * (A 7 (A 20 x1)) + k)) ∧ Q (some (.int (iz (m_col A (A 7 (A 20 x1)) (((A 26 ((24 * x1) + x5)) + x4) + ((m_loses A x1 x5).tdiv 2)))))) (Φ (mI A))))) ∧ (¬ (x4 < ((A 25 x1) - (m_loses A x1 x5))) → (((x3 = 0) → (Rg ((A 25 x1) - 0)) ∧ (Rg (x4 - ((A 25 x1) - 0))) ∧ (Rg (x5 + 1)) ∧ wpE (xT 164) (xev xT d) Q (69, [(0, .ref m), (1, .int (iz x1)), (3, .int (iz x3)), (4, .int (iz (x4 - ((A 25 x1) - 0)))), (5, .int (iz (x5 + 1)))], [], Φ (mI A))) ∧ (¬ (x3 = 0) → (Rg (x4 - ((A 25 x1) - (m_loses A x1 x5)))) ∧ (Rg (x5 + 1)) ∧ wpE (xT 164) (xev xT d) Q (69, [(0, .ref m), (1, .int (iz x1)), (3, .int (iz x3)), (4, .int (iz (x4 - ((A 25 x1) - (m_loses A x1 x5))))), (5, .int (iz (x5 + 1)))], [], Φ (mI A))))))))) : wpE (xT 164) (xev xT d) Q (69, [(0, .ref m), (1, .int (iz x1)), (3, .int (iz x3)), (4, .int (iz x4)), (5, .int (iz x5))], [], Φ (mI A)) := by
  refine p_ild (cct c164_69 rfl) rfl ?_
  refine p_ald (cc3 c164_71) rfl ?_
  refine pm_getp hΦ (cc3 c164_72) (c := 25) rfl (by decide) ?_
  refine p_ild (cc3 c164_75) rfl ?_
  obtain ⟨g1, h⟩ := h
  refine n_aldi hΦ (c := 25) (n := 8) (ni := 8) (cc3 c164_76) (by decide) rfl rfl rfl (by decide) g1 (v := A 25 x1) rfl ?_
  refine p_ild (cc3 c164_77) rfl ?_
  refine i_if (c' := x3 = 0) (cc3 c164_78) (c_eq0 rr.2.1) (fun c => ?_) (fun c => ?_)
  · have h := h.1 c
    refine i_push (n := 0) (cc3 c164_91) zl_0 ?_
    obtain ⟨g2, h⟩ := h
    refine (fun _ : Rg ((A 25 x1) - 0) => i_sub (cct c164_92 rfl) ?_) g2
    refine i_icmp (c' := x4 < ((A 25 x1) - 0)) (cc3 c164_93) (iz_lt rr.2.2.1 g2) (fun c => ?_) (fun c => ?_)
    · have h := h.1 c
      refine p_ald (cc3 c164_129) rfl ?_
      refine p_ald (cc3 c164_130) rfl ?_
      refine pm_getp hΦ (cc3 c164_131) (c := 7) rfl (by decide) ?_
      refine p_ald (cc3 c164_134) rfl ?_
      refine pm_getp hΦ (cc3 c164_135) (c := 20) rfl (by decide) ?_
      refine p_ild (cc3 c164_138) rfl ?_
      refine n_aldi hΦ (c := 20) (n := 8) (ni := 8) (cc3 c164_139) (by decide) rfl rfl rfl (by decide) g1 (v := A 20 x1) rfl ?_
      obtain ⟨g3, h⟩ := h
      refine n_aldi hΦ (c := 7) (n := 5) (ni := 5) (cc3 c164_140) (by decide) rfl rfl rfl (by decide) g3 (v := A 7 (A 20 x1)) rfl ?_
      refine p_ald (cc3 c164_141) rfl ?_
      refine pm_getp hΦ (cc3 c164_142) (c := 26) rfl (by decide) ?_
      refine i_push (n := 24) (cc3 c164_145) zl_24 ?_
      refine p_ild (cc3 c164_147) rfl ?_
      obtain ⟨g4, h⟩ := h
      refine (fun _ : Rg (24 * x1) => i_mul (cc3 c164_148) ?_) g4
      refine p_ild (cc3 c164_149) rfl ?_
      obtain ⟨g5, h⟩ := h
      refine (fun _ : Rg ((24 * x1) + x5) => i_add (cc3 c164_151) ?_) g5
      obtain ⟨g6, h⟩ := h
      refine n_aldi hΦ (c := 26) (n := 192) (ni := 192) (cc3 c164_152) (by decide) rfl rfl rfl (by decide) g6 (v := A 26 ((24 * x1) + x5)) rfl ?_
      refine p_ild (cc3 c164_153) rfl ?_
      obtain ⟨g7, h⟩ := h
      refine (fun _ : Rg ((A 26 ((24 * x1) + x5)) + x4) => i_add (cc3 c164_155) ?_) g7
      refine p_ild (cc3 c164_156) rfl ?_
      refine i_if (c' := x3 = 0) (cc3 c164_157) (c_eq0 rr.2.1) (fun c => ?_) (fun c => ?_)
      · have h := h.1 c
        refine i_push (n := 0) (cc3 c164_172) zl_0 ?_
        refine p_lc (ls' := []) c164_173 rfl rfl ?_
        obtain ⟨g8, h⟩ := h
        refine (fun _ : Rg (((A 26 ((24 * x1) + x5)) + x4) + 0) => i_add (cct c164_173 rfl) ?_) g8
        obtain ⟨g9, h⟩ := h
        obtain ⟨g10, h⟩ := h
        obtain ⟨g11, h⟩ := h
        obtain ⟨g12, h⟩ := h
        obtain ⟨g13, h⟩ := h
        refine p_callV (cc3 c164_174) (Nat.le_of_ble_eq_true rfl) rfl rfl (Nat.le_of_ble_eq_true rfl) (ml_kd hΦ) (S139 (Nat.le_trans (by decide) hd) hΦ hR ⟨(hR 7 (A 20 x1)), g8⟩ ⟨g9, g10, g11, g12, g13⟩) ?_
        exact p_ri (cc3 c164_177) trivial h
      · have h := h.2 c
        refine p_ald (cc3 c164_160) rfl ?_
        refine p_ild (cc3 c164_161) rfl ?_
        refine p_ild (cc3 c164_162) rfl ?_
        obtain ⟨g8, h⟩ := h
        obtain ⟨g9, h⟩ := h
        obtain ⟨g10, h⟩ := h
        refine p_callV (cc3 c164_164) (Nat.le_of_ble_eq_true rfl) rfl rfl (Nat.le_of_ble_eq_true rfl) (ml_kd hΦ) (S162 (Nat.le_trans (by decide) hd) hΦ hR ⟨rr.1, rr.2.2.2⟩ ⟨g1, g8, g9, g10⟩) ?_
        refine i_push (n := 2) (cc3 c164_167) zl_2 ?_
        obtain ⟨g11, h⟩ := h
        refine i_div (cc3 c164_168) g11 (by decide) ?_
        refine p_goto (cc3 c164_169) ?_
        refine p_lc (ls' := []) c164_173 rfl rfl ?_
        obtain ⟨g12, h⟩ := h
        refine (fun _ : Rg (((A 26 ((24 * x1) + x5)) + x4) + ((m_loses A x1 x5).tdiv 2)) => i_add (cct c164_173 rfl) ?_) g12
        obtain ⟨g13, h⟩ := h
        obtain ⟨g14, h⟩ := h
        obtain ⟨g15, h⟩ := h
        obtain ⟨g16, h⟩ := h
        obtain ⟨g17, h⟩ := h
        refine p_callV (cc3 c164_174) (Nat.le_of_ble_eq_true rfl) rfl rfl (Nat.le_of_ble_eq_true rfl) (ml_kd hΦ) (S139 (Nat.le_trans (by decide) hd) hΦ hR ⟨(hR 7 (A 20 x1)), g12⟩ ⟨g13, g14, g15, g16, g17⟩) ?_
        exact p_ri (cc3 c164_177) trivial h
    · have h := h.2 c
      refine p_ild (cc3 c164_96) rfl ?_
      refine p_ald (cc3 c164_98) rfl ?_
      refine pm_getp hΦ (cc3 c164_99) (c := 25) rfl (by decide) ?_
      refine p_ild (cc3 c164_102) rfl ?_
      refine n_aldi hΦ (c := 25) (n := 8) (ni := 8) (cc3 c164_103) (by decide) rfl rfl rfl (by decide) g1 (v := A 25 x1) rfl ?_
      refine p_ild (cc3 c164_104) rfl ?_
      refine i_if (c' := x3 = 0) (cc3 c164_105) (c_eq0 rr.2.1) (fun c => ?_) (fun c => ?_)
      · have h := h.1 c
        refine i_push (n := 0) (cc3 c164_118) zl_0 ?_
        refine p_lc (ls' := [(0, .ref m), (1, .int (iz x1)), (3, .int (iz x3)), (5, .int (iz x5))]) c164_119 rfl rfl ?_
        refine (fun _ : Rg ((A 25 x1) - 0) => i_sub (cct c164_119 rfl) ?_) g2
        obtain ⟨g3, h⟩ := h
        refine (fun _ : Rg (x4 - ((A 25 x1) - 0)) => i_sub (cc3 c164_120) ?_) g3
        refine p_ist (ls' := [(4, .int (iz (x4 - ((A 25 x1) - 0)))), (0, .ref m), (1, .int (iz x1)), (3, .int (iz x3)), (5, .int (iz x5))]) (cc3 c164_121) (by decide) rfl ?_
        obtain ⟨g4, h⟩ := h
        refine (fun _ : Rg (x5 + 1) => i_iinc (n := 1) (y := x5 + 1) (ls' := [(5, .int (iz (x5 + 1))), (4, .int (iz (x4 - ((A 25 x1) - 0)))), (0, .ref m), (1, .int (iz x1)), (3, .int (iz x3))]) (cc3 c164_123) (by decide) rfl zl_1 (by first | rfl | omega) rfl ?_) g4
        refine p_goto (cc3 c164_126) ?_
        exact p_lc (ls' := [(0, .ref m), (1, .int (iz x1)), (3, .int (iz x3)), (4, .int (iz (x4 - ((A 25 x1) - 0)))), (5, .int (iz (x5 + 1)))]) c164_69 rfl rfl h
      · have h := h.2 c
        refine p_ald (cc3 c164_108) rfl ?_
        refine p_ild (cc3 c164_109) rfl ?_
        refine p_ild (cc3 c164_110) rfl ?_
        obtain ⟨g3, h⟩ := h
        obtain ⟨g4, h⟩ := h
        obtain ⟨g5, h⟩ := h
        refine p_callV (cc3 c164_112) (Nat.le_of_ble_eq_true rfl) rfl rfl (Nat.le_of_ble_eq_true rfl) (ml_kd hΦ) (S162 (Nat.le_trans (by decide) hd) hΦ hR ⟨rr.1, rr.2.2.2⟩ ⟨g1, g3, g4, g5⟩) ?_
        refine p_goto (cc3 c164_115) ?_
        refine p_lc (ls' := [(0, .ref m), (1, .int (iz x1)), (3, .int (iz x3)), (5, .int (iz x5))]) c164_119 rfl rfl ?_
        obtain ⟨g6, h⟩ := h
        refine (fun _ : Rg ((A 25 x1) - (m_loses A x1 x5)) => i_sub (cct c164_119 rfl) ?_) g6
        obtain ⟨g7, h⟩ := h
        refine (fun _ : Rg (x4 - ((A 25 x1) - (m_loses A x1 x5))) => i_sub (cc3 c164_120) ?_) g7
        refine p_ist (ls' := [(4, .int (iz (x4 - ((A 25 x1) - (m_loses A x1 x5))))), (0, .ref m), (1, .int (iz x1)), (3, .int (iz x3)), (5, .int (iz x5))]) (cc3 c164_121) (by decide) rfl ?_
        obtain ⟨g8, h⟩ := h
        refine (fun _ : Rg (x5 + 1) => i_iinc (n := 1) (y := x5 + 1) (ls' := [(5, .int (iz (x5 + 1))), (4, .int (iz (x4 - ((A 25 x1) - (m_loses A x1 x5))))), (0, .ref m), (1, .int (iz x1)), (3, .int (iz x3))]) (cc3 c164_123) (by decide) rfl zl_1 (by first | rfl | omega) rfl ?_) g8
        refine p_goto (cc3 c164_126) ?_
        exact p_lc (ls' := [(0, .ref m), (1, .int (iz x1)), (3, .int (iz x3)), (4, .int (iz (x4 - ((A 25 x1) - (m_loses A x1 x5))))), (5, .int (iz (x5 + 1)))]) c164_69 rfl rfl h
  · have h := h.2 c
    refine p_ald (cc3 c164_81) rfl ?_
    refine p_ild (cc3 c164_82) rfl ?_
    refine p_ild (cc3 c164_83) rfl ?_
    obtain ⟨g2, h⟩ := h
    obtain ⟨g3, h⟩ := h
    obtain ⟨g4, h⟩ := h
    refine p_callV (cc3 c164_85) (Nat.le_of_ble_eq_true rfl) rfl rfl (Nat.le_of_ble_eq_true rfl) (ml_kd hΦ) (S162 (Nat.le_trans (by decide) hd) hΦ hR ⟨rr.1, rr.2.2.2⟩ ⟨g1, g2, g3, g4⟩) ?_
    refine p_goto (cc3 c164_88) ?_
    obtain ⟨g5, h⟩ := h
    refine (fun _ : Rg ((A 25 x1) - (m_loses A x1 x5)) => i_sub (cct c164_92 rfl) ?_) g5
    refine i_icmp (c' := x4 < ((A 25 x1) - (m_loses A x1 x5))) (cc3 c164_93) (iz_lt rr.2.2.1 g5) (fun c => ?_) (fun c => ?_)
    · have h := h.1 c
      refine p_ald (cc3 c164_129) rfl ?_
      refine p_ald (cc3 c164_130) rfl ?_
      refine pm_getp hΦ (cc3 c164_131) (c := 7) rfl (by decide) ?_
      refine p_ald (cc3 c164_134) rfl ?_
      refine pm_getp hΦ (cc3 c164_135) (c := 20) rfl (by decide) ?_
      refine p_ild (cc3 c164_138) rfl ?_
      refine n_aldi hΦ (c := 20) (n := 8) (ni := 8) (cc3 c164_139) (by decide) rfl rfl rfl (by decide) g1 (v := A 20 x1) rfl ?_
      obtain ⟨g6, h⟩ := h
      refine n_aldi hΦ (c := 7) (n := 5) (ni := 5) (cc3 c164_140) (by decide) rfl rfl rfl (by decide) g6 (v := A 7 (A 20 x1)) rfl ?_
      refine p_ald (cc3 c164_141) rfl ?_
      refine pm_getp hΦ (cc3 c164_142) (c := 26) rfl (by decide) ?_
      refine i_push (n := 24) (cc3 c164_145) zl_24 ?_
      refine p_ild (cc3 c164_147) rfl ?_
      obtain ⟨g7, h⟩ := h
      refine (fun _ : Rg (24 * x1) => i_mul (cc3 c164_148) ?_) g7
      refine p_ild (cc3 c164_149) rfl ?_
      obtain ⟨g8, h⟩ := h
      refine (fun _ : Rg ((24 * x1) + x5) => i_add (cc3 c164_151) ?_) g8
      obtain ⟨g9, h⟩ := h
      refine n_aldi hΦ (c := 26) (n := 192) (ni := 192) (cc3 c164_152) (by decide) rfl rfl rfl (by decide) g9 (v := A 26 ((24 * x1) + x5)) rfl ?_
      refine p_ild (cc3 c164_153) rfl ?_
      obtain ⟨g10, h⟩ := h
      refine (fun _ : Rg ((A 26 ((24 * x1) + x5)) + x4) => i_add (cc3 c164_155) ?_) g10
      refine p_ild (cc3 c164_156) rfl ?_
      refine i_if (c' := x3 = 0) (cc3 c164_157) (c_eq0 rr.2.1) (fun c => ?_) (fun c => ?_)
      · have h := h.1 c
        refine i_push (n := 0) (cc3 c164_172) zl_0 ?_
        refine p_lc (ls' := []) c164_173 rfl rfl ?_
        obtain ⟨g11, h⟩ := h
        refine (fun _ : Rg (((A 26 ((24 * x1) + x5)) + x4) + 0) => i_add (cct c164_173 rfl) ?_) g11
        obtain ⟨g12, h⟩ := h
        obtain ⟨g13, h⟩ := h
        obtain ⟨g14, h⟩ := h
        obtain ⟨g15, h⟩ := h
        obtain ⟨g16, h⟩ := h
        refine p_callV (cc3 c164_174) (Nat.le_of_ble_eq_true rfl) rfl rfl (Nat.le_of_ble_eq_true rfl) (ml_kd hΦ) (S139 (Nat.le_trans (by decide) hd) hΦ hR ⟨(hR 7 (A 20 x1)), g11⟩ ⟨g12, g13, g14, g15, g16⟩) ?_
        exact p_ri (cc3 c164_177) trivial h
      · have h := h.2 c
        refine p_ald (cc3 c164_160) rfl ?_
        refine p_ild (cc3 c164_161) rfl ?_
        refine p_ild (cc3 c164_162) rfl ?_
        refine p_callV (cc3 c164_164) (Nat.le_of_ble_eq_true rfl) rfl rfl (Nat.le_of_ble_eq_true rfl) (ml_kd hΦ) (S162 (Nat.le_trans (by decide) hd) hΦ hR ⟨rr.1, rr.2.2.2⟩ ⟨g1, g2, g3, g4⟩) ?_
        refine i_push (n := 2) (cc3 c164_167) zl_2 ?_
        obtain ⟨g11, h⟩ := h
        refine i_div (cc3 c164_168) g11 (by decide) ?_
        refine p_goto (cc3 c164_169) ?_
        refine p_lc (ls' := []) c164_173 rfl rfl ?_
        obtain ⟨g12, h⟩ := h
        refine (fun _ : Rg (((A 26 ((24 * x1) + x5)) + x4) + ((m_loses A x1 x5).tdiv 2)) => i_add (cct c164_173 rfl) ?_) g12
        obtain ⟨g13, h⟩ := h
        obtain ⟨g14, h⟩ := h
        obtain ⟨g15, h⟩ := h
        obtain ⟨g16, h⟩ := h
        obtain ⟨g17, h⟩ := h
        refine p_callV (cc3 c164_174) (Nat.le_of_ble_eq_true rfl) rfl rfl (Nat.le_of_ble_eq_true rfl) (ml_kd hΦ) (S139 (Nat.le_trans (by decide) hd) hΦ hR ⟨(hR 7 (A 20 x1)), g12⟩ ⟨g13, g14, g15, g16, g17⟩) ?_
        exact p_ri (cc3 c164_177) trivial h
    · have h := h.2 c
      refine p_ild (cc3 c164_96) rfl ?_
      refine p_ald (cc3 c164_98) rfl ?_
      refine pm_getp hΦ (cc3 c164_99) (c := 25) rfl (by decide) ?_
      refine p_ild (cc3 c164_102) rfl ?_
      refine n_aldi hΦ (c := 25) (n := 8) (ni := 8) (cc3 c164_103) (by decide) rfl rfl rfl (by decide) g1 (v := A 25 x1) rfl ?_
      refine p_ild (cc3 c164_104) rfl ?_
      refine i_if (c' := x3 = 0) (cc3 c164_105) (c_eq0 rr.2.1) (fun c => ?_) (fun c => ?_)
      · have h := h.1 c
        refine i_push (n := 0) (cc3 c164_118) zl_0 ?_
        refine p_lc (ls' := [(0, .ref m), (1, .int (iz x1)), (3, .int (iz x3)), (5, .int (iz x5))]) c164_119 rfl rfl ?_
        obtain ⟨g6, h⟩ := h
        refine (fun _ : Rg ((A 25 x1) - 0) => i_sub (cct c164_119 rfl) ?_) g6
        obtain ⟨g7, h⟩ := h
        refine (fun _ : Rg (x4 - ((A 25 x1) - 0)) => i_sub (cc3 c164_120) ?_) g7
        refine p_ist (ls' := [(4, .int (iz (x4 - ((A 25 x1) - 0)))), (0, .ref m), (1, .int (iz x1)), (3, .int (iz x3)), (5, .int (iz x5))]) (cc3 c164_121) (by decide) rfl ?_
        obtain ⟨g8, h⟩ := h
        refine (fun _ : Rg (x5 + 1) => i_iinc (n := 1) (y := x5 + 1) (ls' := [(5, .int (iz (x5 + 1))), (4, .int (iz (x4 - ((A 25 x1) - 0)))), (0, .ref m), (1, .int (iz x1)), (3, .int (iz x3))]) (cc3 c164_123) (by decide) rfl zl_1 (by first | rfl | omega) rfl ?_) g8
        refine p_goto (cc3 c164_126) ?_
        exact p_lc (ls' := [(0, .ref m), (1, .int (iz x1)), (3, .int (iz x3)), (4, .int (iz (x4 - ((A 25 x1) - 0)))), (5, .int (iz (x5 + 1)))]) c164_69 rfl rfl h
      · have h := h.2 c
        refine p_ald (cc3 c164_108) rfl ?_
        refine p_ild (cc3 c164_109) rfl ?_
        refine p_ild (cc3 c164_110) rfl ?_
        refine p_callV (cc3 c164_112) (Nat.le_of_ble_eq_true rfl) rfl rfl (Nat.le_of_ble_eq_true rfl) (ml_kd hΦ) (S162 (Nat.le_trans (by decide) hd) hΦ hR ⟨rr.1, rr.2.2.2⟩ ⟨g1, g2, g3, g4⟩) ?_
        refine p_goto (cc3 c164_115) ?_
        refine p_lc (ls' := [(0, .ref m), (1, .int (iz x1)), (3, .int (iz x3)), (5, .int (iz x5))]) c164_119 rfl rfl ?_
        refine (fun _ : Rg ((A 25 x1) - (m_loses A x1 x5)) => i_sub (cct c164_119 rfl) ?_) g5
        obtain ⟨g6, h⟩ := h
        refine (fun _ : Rg (x4 - ((A 25 x1) - (m_loses A x1 x5))) => i_sub (cc3 c164_120) ?_) g6
        refine p_ist (ls' := [(4, .int (iz (x4 - ((A 25 x1) - (m_loses A x1 x5))))), (0, .ref m), (1, .int (iz x1)), (3, .int (iz x3)), (5, .int (iz x5))]) (cc3 c164_121) (by decide) rfl ?_
        obtain ⟨g7, h⟩ := h
        refine (fun _ : Rg (x5 + 1) => i_iinc (n := 1) (y := x5 + 1) (ls' := [(5, .int (iz (x5 + 1))), (4, .int (iz (x4 - ((A 25 x1) - (m_loses A x1 x5))))), (0, .ref m), (1, .int (iz x1)), (3, .int (iz x3))]) (cc3 c164_123) (by decide) rfl zl_1 (by first | rfl | omega) rfl ?_) g7
        refine p_goto (cc3 c164_126) ?_
        exact p_lc (ls' := [(0, .ref m), (1, .int (iz x1)), (3, .int (iz x3)), (4, .int (iz (x4 - ((A 25 x1) - (m_loses A x1 x5))))), (5, .int (iz (x5 + 1)))]) c164_69 rfl rfl h

theorem L164 {d : Nat} (hd : 3 ≤ d) {Q : Option Value → xM → Prop} {m : Nat} {Φ : (Nat → Nat → Int32) → xM} (hΦ : MLaw m Φ) {A : Nat → Int → Int} (hR : RG A) {k t : Int} (hk : 0 ≤ k ∧ k < 8) (ht : Rg t) (hs : SettsOK A) (hb : BoltsOK A) (k1 : KiltOK A k) (k2 : LaidOK A k) (k3 : 0 ≤ A 20 k) :
    ∀ (r : Nat) (p : Nat) (l : Int), (p : Int) + r = A 15 k → 0 ≤ l → l ≤ 100000 → l < sm (m_wd A k t) (p + r) - sm (m_wd A k t) p → Q (some (.int (iz ((fun q : Int × Int => m_shq A k t q.1 q.2) (shp (m_wd A k t) r p l))))) (Φ (mI A)) → wpE (xT 164) (xev xT d) Q (69, [(0, .ref m), (1, .int (iz k)), (3, .int (iz t)), (4, .int (iz l)), (5, .int (iz p))], [], Φ (mI A)) := by
  have kb := k1.b
  have kn : 4 ≤ A 15 k ∧ A 15 k ≤ 24 := k1.2.2.2.2.1
  obtain ⟨a1, a2, a3, a4, a5, a6, a7, a8⟩ := k2 k3
  obtain ⟨b1, b2, b3⟩ := hb.2 (A 20 k) k3 a1
  obtain ⟨s1, s2, s3, s4, -⟩ := hs.2 (A 7 (A 20 k)) (by omega) (by omega)
  have s5 : ∀ q : Int, 0 ≤ q → q < A 2 (A 7 (A 20 k)) → 0 ≤ A 5 (10 * A 7 (A 20 k) + q) := fun q q1 q2 => by have := (s4 q q1 q2).2; omega
  have hs2 := hs.1
  have hb2 := hb.1
  intro r
  induction r with
  | zero => intro p l h0 h1 h1b h2; simp at h2; omega
  | succ r ih =>
    intro p l h0 h1 h1b h2 hQ
    have lb := loses_b (A := A) (k := k) (p := p) (by omega) (by omega) (by omega)
    have xb := (a8 p (by omega) (by omega))
    have ll : m_loses A k p ≤ 25000 ∧ -25000 ≤ m_loses A k p := by omega
    have lt : Rg ((m_loses A k p).tdiv 2) := rg_tdiv (by omega) (by omega)
    have lh : -25000 ≤ (m_loses A k p).tdiv 2 ∧ (m_loses A k p).tdiv 2 ≤ 25000 ∧ (0 ≤ m_loses A k p → 0 ≤ (m_loses A k p).tdiv 2) := by
      by_cases q : 0 ≤ m_loses A k p
      · rw [tdiv_pos q]; omega
      · have e := Int.neg_tdiv (m_loses A k p) 2
        rw [tdiv_pos (by omega)] at e; omega
    have l0 : 0 ≤ m_loses A k p := by
      unfold m_loses
      have q1 := mul_b (a := (p : Int)) (b := A 19 k) (M := 25) (N := 1000) (by omega) (by omega) (by omega) (by omega)
      have q2 := mul_b (a := (p : Int) + 1) (b := A 19 k) (M := 25) (N := 1000) (by omega) (by omega) (by omega) (by omega)
      rw [tdiv_pos q1.1, tdiv_pos q2.1]
      have := Int.ediv_le_ediv (a := (p : Int) * A 19 k) (b := ((p : Int) + 1) * A 19 k) (c := A 15 k) (by omega) (by rw [Int.add_mul]; omega)
      omega
    have ew : m_wd A k t p = A 25 k - (if t = 0 then 0 else m_loses A k p) := rfl
    have eg : ∀ l', m_shq A k t p l' = m_col A (A 7 (A 20 k)) (A 26 (24 * k + p) + l' + (if t = 0 then 0 else (m_loses A k p).tdiv 2)) := fun _ => rfl
    have hstep : ¬ l < m_wd A k t p → wpE (xT 164) (xev xT d) Q (69, [(0, .ref m), (1, .int (iz k)), (3, .int (iz t)), (4, .int (iz (l - m_wd A k t p))), (5, .int (iz ((p : Int) + 1)))], [], Φ (mI A)) := fun q => by
      have e1 : sm (m_wd A k t) (p + 1) = sm (m_wd A k t) p + m_wd A k t p := rfl
      refine ih (p + 1) (l - m_wd A k t p) (by omega) (by omega) (by split at ew <;> omega) (by rw [show p + 1 + r = p + (r + 1) by omega]; omega) ?_
      unfold shp at hQ
      rw [if_neg q] at hQ
      exact hQ
    have hend : l < m_wd A k t p → Q (some (.int (iz (m_shq A k t p l)))) (Φ (mI A)) := fun q => by
      unfold shp at hQ
      rw [if_pos q] at hQ
      exact hQ
    rw [eg] at hend
    refine V164_69 hd hΦ hR (by omega) ?_
    refine ⟨by omega, fun t0 => ⟨by omega, fun c => ⟨by omega, by omega, by omega, by omega, by omega, fun t1 => ⟨by omega, by omega, by omega, by omega, by omega, s5, ?_⟩, fun t1 => absurd t0 t1⟩, fun c => ⟨fun t1 => ⟨by omega, by omega, ?_⟩, fun t1 => absurd t0 t1⟩⟩, fun t0 => ?_⟩
    · rw [if_pos t0] at ew hend
      exact hend (by omega)
    · rw [if_pos t0] at ew
      rw [ew] at hstep
      exact hstep (by omega)
    · rw [if_neg t0] at ew hend
      rw [ew] at hstep hend
      refine ⟨by omega, by omega, by omega, by omega, fun c => ⟨by omega, by omega, by omega, by omega, by omega, fun t1 => absurd t1 t0, fun t1 => ⟨by omega, by omega, by omega, by omega, by omega, by omega, s5, hend c⟩⟩, fun c => ⟨fun t1 => absurd t1 t0, fun t1 => ⟨by omega, by omega, hstep c⟩⟩⟩

theorem S164 {d : Nat} (hd : 4 ≤ d) {m : Nat} {Φ : (Nat → Nat → Int32) → xM} (hΦ : MLaw m Φ) {A : Nat → Int → Int} (hR : RG A) {x1 x2 x3 : Int} (rr : Rg x1 ∧ Rg x2 ∧ Rg x3) (hp : (SettsOK A) ∧ (BoltsOK A) ∧ (KiltsOK A)) : xev xT d 164 [.ref m, .int (iz x1), .int (iz x2), .int (iz x3)] (Φ (mI A)) (some (.int (iz (m_shown A x1 x2 x3)))) (Φ (mI A)) := by
  refine xev_i (D := 3) hd (Nat.le_of_ble_eq_true rfl) (fun d hd => V164_0 hd hΦ hR rr ?_)

  obtain ⟨hs, hb, hk⟩ := hp
  have hk0 := hk.1
  refine ⟨hk0.1, fun h => ⟨?_, rfl⟩, fun h => ⟨hk0, fun h2 => ⟨?_, rfl⟩, fun h2 => ?_⟩⟩
  · unfold m_shown; rw [if_neg h]
  · unfold m_shown; rw [if_pos h, if_pos (by omega)]
  obtain ⟨k1, k2⟩ := hk.2 x1 (by omega) (by omega)
  have kb := k1.b
  have kn : 4 ≤ A 15 x1 ∧ A 15 x1 ≤ 24 := k1.2.2.2.2.1
  obtain ⟨a1, a2, a3, a4, a5, a6, a7, a8⟩ := k2 h2.2
  have e : A 15 x1 * A 25 x1 - (if x3 = 0 then 0 else A 19 x1) = m_aro A x1 x3 := rfl
  rw [e]
  have ab : m_aro A x1 x3 ≤ 50000 ∧ -1000 ≤ m_aro A x1 x3 := by
    have := mul_b (a := A 15 x1) (b := A 25 x1) (M := 24) (N := 2000) (by omega) (by omega) (by omega) (by omega)
    unfold m_aro; split <;> omega
  have es := sm_wd (A := A) (k := x1) (t := x3) (by omega) (by omega)
  refine ⟨by omega, by omega, by omega, by omega, by omega, fun h3 => ⟨?_, rfl⟩, fun h3 => ⟨fun t0 => ?_, fun t0 => ⟨by omega, ?_⟩⟩⟩
  · unfold m_shown; rw [if_pos h, if_neg (by omega), if_neg h3]
  · refine L164 hd hΦ hR (by omega) rr.2.2 hs hb k1 k2 h2.2 (A 15 x1).toNat 0 x2 (by omega) (by omega) (by omega) (by rw [Nat.zero_add, es]; simp only [sm]; omega) ⟨?_, rfl⟩
    unfold m_shown; rw [if_pos h, if_neg (by omega), if_pos h3, if_pos t0]; rfl
  · refine L164 hd hΦ hR (by omega) rr.2.2 hs hb k1 k2 h2.2 (A 15 x1).toNat 0 (m_aro A x1 x3 - 1 - x2) (by omega) (by omega) (by omega) (by rw [Nat.zero_add, es]; simp only [sm]; omega) ⟨?_, rfl⟩
    unfold m_shown; rw [if_pos h, if_neg (by omega), if_pos h3, if_neg t0]; rfl
def canB (A : Nat → Int → Int) (k w : Int) : Nat → Int → Bool
  | 0, _ => true
  | r + 1, p => if w ≤ m_loses A k p ∨ m_behind A k p < A 26 (24 * k + p) + w ∨ m_isF A (A 20 k) (A 26 (24 * k + p)) w = true then false else canB A k w r (p + 1)
abbrev m_canBe (A : Nat → Int → Int) (k w : Int) : Prop := (1 ≤ w ∧ w ≤ 999) ∧ canB A k w (A 15 k).toNat 0 = true
def m_let_r (A : Nat → Int → Int) (k d : Int) : Int := if (0 ≤ k ∧ k ≤ A 0 13 - 1) ∧ (-20 ≤ d ∧ d ≤ 20) then (if 0 ≤ A 20 k ∧ m_canBe A k (A 25 k + d) then A 25 k + d else -3) else -2
def m_let_n (A : Nat → Int → Int) (k d : Int) : Nat → Int → Int := if ((0 ≤ k ∧ k ≤ A 0 13 - 1) ∧ (-20 ≤ d ∧ d ≤ 20)) ∧ 0 ≤ A 20 k ∧ m_canBe A k (A 25 k + d) then UA A 25 k (A 25 k + d) else A
theorem V168_0 {d : Nat} (hd : 1 ≤ d) {Q : Option Value → xM → Prop} {m : Nat} {Φ : (Nat → Nat → Int32) → xM} (hΦ : MLaw m Φ) {A : Nat → Int → Int} (hR : RG A) {x1 x2 : Int} (rr : Rg x1 ∧ Rg x2) (h : ((¬ (1 ≤ x2 ∧ x2 ≤ 999) → Q (some (.int (iz 0))) (Φ (mI A))) ∧ ((1 ≤ x2 ∧ x2 ≤ 999) → wpE (xT 168) (xev xT d) Q (16, [(0, .ref m), (1, .int (iz x1)), (2, .int (iz x2)), (3, .int (iz 0))], [], Φ (mI A))))) : wpE (xT 168) (xev xT d) Q (0, [(0, .ref m), (1, .int (iz x1)), (2, .int (iz x2))], [], Φ (mI A)) := by
  refine p_ald (cc3 c168_0) rfl ?_
  refine p_ild (cc3 c168_1) rfl ?_
  refine i_push (n := 1) (cc3 c168_2) zl_1 ?_
  refine i_push (n := 999) (cc3 c168_3) zl_999 ?_
  refine p_callV (cc3 c168_6) (Nat.le_of_ble_eq_true rfl) rfl rfl (Nat.le_of_ble_eq_true rfl) (ml_kd hΦ) (S129 (Nat.le_trans (by decide) hd) hΦ hR ⟨rr.2, (by decide), (by decide)⟩) ?_
  refine i_ifB (cc3 c168_9) (fun c => ?_) (fun c => ?_)
  · have h := h.1 c
    refine i_push (n := 0) (cc3 c168_12) zl_0 ?_
    exact i_ri (cc3 c168_13) (by decide) h
  · have h := h.2 c
    refine i_push (n := 0) (cc3 c168_14) zl_0 ?_
    refine p_ist (ls' := [(3, .int (iz 0)), (0, .ref m), (1, .int (iz x1)), (2, .int (iz x2))]) (cc3 c168_15) (by decide) rfl ?_
    exact p_lc (ls' := [(0, .ref m), (1, .int (iz x1)), (2, .int (iz x2)), (3, .int (iz 0))]) c168_16 rfl rfl h
theorem V168_16 {d : Nat} (hd : 1 ≤ d) {Q : Option Value → xM → Prop} {m : Nat} {Φ : (Nat → Nat → Int32) → xM} (hΦ : MLaw m Φ) {A : Nat → Int → Int} (hR : RG A) {x1 x2 x3 : Int} (rr : Rg x1 ∧ Rg x2 ∧ Rg x3) (h : (0 ≤ x1 ∧ x1 < 8) ∧ ((((A 15 x1) ≤ x3) → Q (some (.int (iz 1))) (Φ (mI A))) ∧ (¬ ((A 15 x1) ≤ x3) → (0 ≤ x3 ∧ x3 ≤ 24) ∧ (0 ≤ A 19 x1 ∧ A 19 x1 ≤ 1000) ∧ (0 < A 15 x1) ∧ (Rg (m_loses A x1 x3)) ∧ (((x2 ≤ (m_loses A x1 x3)) → Q (some (.int (iz 0))) (Φ (mI A))) ∧ (¬ (x2 ≤ (m_loses A x1 x3)) → (Rg (24 * x1)) ∧ (Rg ((24 * x1) + x3)) ∧ (0 ≤ ((24 * x1) + x3) ∧ ((24 * x1) + x3) < 192) ∧ (Rg ((A 26 ((24 * x1) + x3)) + x2)) ∧ (0 ≤ x3 ∧ x3 < 24) ∧ (A 15 x1 ≤ 24) ∧ (Rg (m_behind A x1 x3)) ∧ ((((m_behind A x1 x3) < ((A 26 ((24 * x1) + x3)) + x2)) → Q (some (.int (iz 0))) (Φ (mI A))) ∧ (¬ ((m_behind A x1 x3) < ((A 26 ((24 * x1) + x3)) + x2)) → (0 ≤ (A 20 x1) ∧ (A 20 x1) < 5) ∧ (0 ≤ A 9 (A 20 x1) ∧ A 9 (A 20 x1) ≤ 10) ∧ ((¬ (m_isF A (A 20 x1) (A 26 ((24 * x1) + x3)) x2 = true) → (Rg (x3 + 1)) ∧ wpE (xT 168) (xev xT d) Q (16, [(0, .ref m), (1, .int (iz x1)), (2, .int (iz x2)), (3, .int (iz (x3 + 1)))], [], Φ (mI A))) ∧ ((m_isF A (A 20 x1) (A 26 ((24 * x1) + x3)) x2 = true) → Q (some (.int (iz 0))) (Φ (mI A))))))))))) : wpE (xT 168) (xev xT d) Q (16, [(0, .ref m), (1, .int (iz x1)), (2, .int (iz x2)), (3, .int (iz x3))], [], Φ (mI A)) := by
  refine p_ild (cct c168_16 rfl) rfl ?_
  refine p_ald (cc3 c168_17) rfl ?_
  refine pm_getp hΦ (cc3 c168_18) (c := 15) rfl (by decide) ?_
  refine p_ild (cc3 c168_21) rfl ?_
  obtain ⟨g1, h⟩ := h
  refine n_aldi hΦ (c := 15) (n := 8) (ni := 8) (cc3 c168_22) (by decide) rfl rfl rfl (by decide) g1 (v := A 15 x1) rfl ?_
  refine i_icmp (c' := (A 15 x1) ≤ x3) (cc3 c168_23) (iz_le (hR 15 x1) rr.2.2) (fun c => ?_) (fun c => ?_)
  · have h := h.1 c
    refine i_push (n := 1) (cc3 c168_91) zl_1 ?_
    exact i_ri (cc3 c168_92) (by decide) h
  · have h := h.2 c
    refine p_ild (cc3 c168_26) rfl ?_
    refine p_ald (cc3 c168_27) rfl ?_
    refine p_ild (cc3 c168_28) rfl ?_
    refine p_ild (cc3 c168_29) rfl ?_
    obtain ⟨g2, h⟩ := h
    obtain ⟨g3, h⟩ := h
    obtain ⟨g4, h⟩ := h
    refine p_callV (cc3 c168_30) (Nat.le_of_ble_eq_true rfl) rfl rfl (Nat.le_of_ble_eq_true rfl) (ml_kd hΦ) (S162 (Nat.le_trans (by decide) hd) hΦ hR ⟨rr.1, rr.2.2⟩ ⟨g1, g2, g3, g4⟩) ?_
    obtain ⟨g5, h⟩ := h
    refine i_icmp (c' := x2 ≤ (m_loses A x1 x3)) (cc3 c168_33) (iz_le rr.2.1 g5) (fun c => ?_) (fun c => ?_)
    · have h := h.1 c
      refine p_lc (ls' := []) c168_83 rfl rfl ?_
      refine i_push (n := 0) (cct c168_83 rfl) zl_0 ?_
      exact i_ri (cc3 c168_84) (by decide) h
    · have h := h.2 c
      refine p_ald (cc3 c168_36) rfl ?_
      refine pm_getp hΦ (cc3 c168_37) (c := 26) rfl (by decide) ?_
      refine i_push (n := 24) (cc3 c168_40) zl_24 ?_
      refine p_ild (cc3 c168_42) rfl ?_
      obtain ⟨g6, h⟩ := h
      refine (fun _ : Rg (24 * x1) => i_mul (cc3 c168_43) ?_) g6
      refine p_ild (cc3 c168_44) rfl ?_
      obtain ⟨g7, h⟩ := h
      refine (fun _ : Rg ((24 * x1) + x3) => i_add (cc3 c168_45) ?_) g7
      obtain ⟨g8, h⟩ := h
      refine n_aldi hΦ (c := 26) (n := 192) (ni := 192) (cc3 c168_46) (by decide) rfl rfl rfl (by decide) g8 (v := A 26 ((24 * x1) + x3)) rfl ?_
      refine p_ild (cc3 c168_47) rfl ?_
      obtain ⟨g9, h⟩ := h
      refine (fun _ : Rg ((A 26 ((24 * x1) + x3)) + x2) => i_add (cc3 c168_48) ?_) g9
      refine p_ald (cc3 c168_49) rfl ?_
      refine p_ild (cc3 c168_50) rfl ?_
      refine p_ild (cc3 c168_51) rfl ?_
      obtain ⟨g10, h⟩ := h
      obtain ⟨g11, h⟩ := h
      refine p_callV (cc3 c168_52) (Nat.le_of_ble_eq_true rfl) rfl rfl (Nat.le_of_ble_eq_true rfl) (ml_kd hΦ) (S163 (Nat.le_trans (by decide) hd) hΦ hR ⟨rr.1, rr.2.2⟩ ⟨g1, g10, g11⟩) ?_
      obtain ⟨g12, h⟩ := h
      refine i_icmp (c' := (m_behind A x1 x3) < ((A 26 ((24 * x1) + x3)) + x2)) (cc3 c168_55) (iz_lt g12 g9) (fun c => ?_) (fun c => ?_)
      · have h := h.1 c
        refine p_lc (ls' := []) c168_83 rfl rfl ?_
        refine i_push (n := 0) (cct c168_83 rfl) zl_0 ?_
        exact i_ri (cc3 c168_84) (by decide) h
      · have h := h.2 c
        refine p_ald (cc3 c168_58) rfl ?_
        refine p_ald (cc3 c168_59) rfl ?_
        refine pm_getp hΦ (cc3 c168_60) (c := 20) rfl (by decide) ?_
        refine p_ild (cc3 c168_63) rfl ?_
        refine n_aldi hΦ (c := 20) (n := 8) (ni := 8) (cc3 c168_64) (by decide) rfl rfl rfl (by decide) g1 (v := A 20 x1) rfl ?_
        refine p_ald (cc3 c168_65) rfl ?_
        refine pm_getp hΦ (cc3 c168_66) (c := 26) rfl (by decide) ?_
        refine i_push (n := 24) (cc3 c168_69) zl_24 ?_
        refine p_ild (cc3 c168_71) rfl ?_
        refine (fun _ : Rg (24 * x1) => i_mul (cc3 c168_72) ?_) g6
        refine p_ild (cc3 c168_73) rfl ?_
        refine (fun _ : Rg ((24 * x1) + x3) => i_add (cc3 c168_74) ?_) g7
        refine n_aldi hΦ (c := 26) (n := 192) (ni := 192) (cc3 c168_75) (by decide) rfl rfl rfl (by decide) g8 (v := A 26 ((24 * x1) + x3)) rfl ?_
        refine p_ild (cc3 c168_76) rfl ?_
        obtain ⟨g13, h⟩ := h
        obtain ⟨g14, h⟩ := h
        refine p_callV (cc3 c168_77) (Nat.le_of_ble_eq_true rfl) rfl rfl (Nat.le_of_ble_eq_true rfl) (ml_kd hΦ) (S144 (Nat.le_trans (by decide) hd) hΦ hR ⟨(hR 20 x1), (hR 26 ((24 * x1) + x3)), rr.2.1⟩ ⟨g13, g14, g9⟩) ?_
        refine i_ifB (cc3 c168_80) (fun c => ?_) (fun c => ?_)
        · have h := h.1 c
          obtain ⟨g15, h⟩ := h
          refine (fun _ : Rg (x3 + 1) => i_iinc (n := 1) (y := x3 + 1) (ls' := [(3, .int (iz (x3 + 1))), (0, .ref m), (1, .int (iz x1)), (2, .int (iz x2))]) (cc3 c168_85) (by decide) rfl zl_1 (by first | rfl | omega) rfl ?_) g15
          refine p_goto (cc3 c168_88) ?_
          exact p_lc (ls' := [(0, .ref m), (1, .int (iz x1)), (2, .int (iz x2)), (3, .int (iz (x3 + 1)))]) c168_16 rfl rfl h
        · have h := h.2 c
          refine p_lc (ls' := []) c168_83 rfl rfl ?_
          refine i_push (n := 0) (cct c168_83 rfl) zl_0 ?_
          exact i_ri (cc3 c168_84) (by decide) h

theorem L168 {d : Nat} (hd : 1 ≤ d) {Q : Option Value → xM → Prop} {m : Nat} {Φ : (Nat → Nat → Int32) → xM} (hΦ : MLaw m Φ) {A : Nat → Int → Int} (hR : RG A) {k w : Int} (hw : 1 ≤ w ∧ w ≤ 999) (hp : BoltsOK A ∧ (0 ≤ k ∧ k < 8) ∧ KiltOK A k ∧ LaidOK A k ∧ 0 ≤ A 20 k) :
    ∀ (r : Nat) (p : Int), 0 ≤ p → p + r = A 15 k → Q (some (.int (iz (bI (canB A k w r p = true))))) (Φ (mI A)) → wpE (xT 168) (xev xT d) Q (16, [(0, .ref m), (1, .int (iz k)), (2, .int (iz w)), (3, .int (iz p))], [], Φ (mI A)) := by
  obtain ⟨hb, hk, k1, k2, k3⟩ := hp
  have kb := k1.b
  have kn : 4 ≤ A 15 k ∧ A 15 k ≤ 24 := k1.2.2.2.2.1
  obtain ⟨a1, a2, a3, a4, a5, a6, a7, a8⟩ := k2 k3
  obtain ⟨b1, b2, b3⟩ := hb.2 (A 20 k) k3 a1
  have hb2 := hb.1
  intro r
  induction r with
  | zero =>
    intro p h0 h1 hQ
    refine V168_16 hd hΦ hR (by omega) ?_
    exact ⟨by omega, fun _ => hQ, fun h => absurd (show A 15 k ≤ p by omega) h⟩
  | succ r ih =>
    intro p h0 h1 hQ
    have lb := loses_b (A := A) (k := k) (p := p) (by omega) (by omega) (by omega)
    have xb := (a8 p (by omega) (by omega)).1
    have bb : 0 ≤ m_behind A k p ∧ m_behind A k p ≤ 9999 := by
      unfold m_behind
      split
      · have := (a8 (p + 1) (by omega) (by omega)).1
        rw [← Int.add_assoc] at this
        exact this
      · exact a4
    unfold canB at hQ
    refine V168_16 hd hΦ hR (by omega) ?_
    refine ⟨by omega, fun h => absurd h (by omega), fun _ => ⟨by omega, by omega, by omega, by omega, fun c1 => ?_, fun c1 => ⟨by omega, by omega, by omega, by omega, by omega, by omega, by omega, fun c2 => ?_, fun c2 => ⟨by omega, by omega, fun c3 => ⟨by omega, ?_⟩, fun c3 => ?_⟩⟩⟩⟩
    · rw [if_pos (Or.inl c1)] at hQ; exact hQ
    · rw [if_pos (Or.inr (Or.inl c2))] at hQ; exact hQ
    · refine ih _ (by omega) (by omega) ?_
      rw [if_neg (by rintro (q | q | q); exact c1 q; exact c2 q; exact c3 q)] at hQ; exact hQ
    · rw [if_pos (Or.inr (Or.inr c3))] at hQ; exact hQ
theorem S168 {d : Nat} (hd : 2 ≤ d) {m : Nat} {Φ : (Nat → Nat → Int32) → xM} (hΦ : MLaw m Φ) {A : Nat → Int → Int} (hR : RG A) {x1 x2 : Int} (rr : Rg x1 ∧ Rg x2) (hp : (BoltsOK A) ∧ (0 ≤ x1 ∧ x1 < 8) ∧ (KiltOK A x1) ∧ (LaidOK A x1) ∧ (0 ≤ A 20 x1)) : xev xT d 168 [.ref m, .int (iz x1), .int (iz x2)] (Φ (mI A)) (some (.int (iz (bI (m_canBe A x1 x2))))) (Φ (mI A)) := by
  refine xev_i (D := 1) hd (Nat.le_of_ble_eq_true rfl) (fun d hd => V168_0 hd hΦ hR rr ?_)

  refine ⟨fun h => ⟨?_, rfl⟩, fun h => ?_⟩
  · rw [bI_f (fun q => h q.1)]
  · have kn : 4 ≤ A 15 x1 ∧ A 15 x1 ≤ 24 := hp.2.2.1.2.2.2.2.1
    exact L168 hd hΦ hR h hp (A 15 x1).toNat 0 (Int.le_refl 0) (by omega) ⟨by rw [bI_i (c' := m_canBe A x1 x2) ⟨fun q => ⟨h, q⟩, fun q => q.2⟩], rfl⟩
theorem V167_0 {d : Nat} (hd : 3 ≤ d) {Q : Option Value → xM → Prop} {m : Nat} {Φ : (Nat → Nat → Int32) → xM} (hΦ : MLaw m Φ) {A : Nat → Int → Int} (hR : RG A) {x1 x2 : Int} (rr : Rg x1 ∧ Rg x2) (h : (0 ≤ A 0 13) ∧ ((¬ (0 ≤ x1 ∧ x1 ≤ A 0 13 - 1) → Q (some (.int (iz (-2)))) (Φ (mI A))) ∧ ((0 ≤ x1 ∧ x1 ≤ A 0 13 - 1) → ((¬ ((-20) ≤ x2 ∧ x2 ≤ 20) → Q (some (.int (iz (-2)))) (Φ (mI A))) ∧ (((-20) ≤ x2 ∧ x2 ≤ 20) → (0 ≤ A 0 13 ∧ A 0 13 ≤ 8) ∧ ((¬ ((0 ≤ x1 ∧ x1 ≤ A 0 13 - 1) ∧ 0 ≤ A 20 x1) → Q (some (.int (iz (-3)))) (Φ (mI A))) ∧ (((0 ≤ x1 ∧ x1 ≤ A 0 13 - 1) ∧ 0 ≤ A 20 x1) → (0 ≤ x1 ∧ x1 < 8) ∧ (Rg ((A 25 x1) + x2)) ∧ (BoltsOK A) ∧ (KiltOK A x1) ∧ (LaidOK A x1) ∧ (0 ≤ A 20 x1) ∧ ((¬ (m_canBe A x1 ((A 25 x1) + x2)) → Q (some (.int (iz (-3)))) (Φ (mI A))) ∧ ((m_canBe A x1 ((A 25 x1) + x2)) → Q (some (.int (iz ((A 25 x1) + x2)))) (Φ (mI (UA A 25 x1 ((A 25 x1) + x2))))))))))))) : wpE (xT 167) (xev xT d) Q (0, [(0, .ref m), (1, .int (iz x1)), (2, .int (iz x2))], [], Φ (mI A)) := by
  refine p_ald (cc3 c167_0) rfl ?_
  refine p_ild (cc3 c167_1) rfl ?_
  obtain ⟨g1, h⟩ := h
  refine p_callV (cc3 c167_2) (Nat.le_of_ble_eq_true rfl) rfl rfl (Nat.le_of_ble_eq_true rfl) (ml_kd hΦ) (S147 (Nat.le_trans (by decide) hd) hΦ hR rr.1 g1) ?_
  refine i_ifB (cc3 c167_5) (fun c => ?_) (fun c => ?_)
  · have h := h.1 c
    refine p_lc (ls' := []) c167_20 rfl rfl ?_
    refine i_push (n := (-2)) (cct c167_20 rfl) zl_m2 ?_
    exact p_ri (cc3 c167_22) trivial h
  · have h := h.2 c
    refine p_ald (cc3 c167_8) rfl ?_
    refine p_ild (cc3 c167_9) rfl ?_
    refine i_push (n := (-20)) (cc3 c167_10) zl_m20 ?_
    refine i_push (n := 20) (cc3 c167_12) zl_20 ?_
    refine p_callV (cc3 c167_14) (Nat.le_of_ble_eq_true rfl) rfl rfl (Nat.le_of_ble_eq_true rfl) (ml_kd hΦ) (S129 (Nat.le_trans (by decide) hd) hΦ hR ⟨rr.2, (by decide), (by decide)⟩) ?_
    refine i_ifB (cc3 c167_17) (fun c => ?_) (fun c => ?_)
    · have h := h.1 c
      refine p_lc (ls' := []) c167_20 rfl rfl ?_
      refine i_push (n := (-2)) (cct c167_20 rfl) zl_m2 ?_
      exact p_ri (cc3 c167_22) trivial h
    · have h := h.2 c
      refine p_ald (cc3 c167_23) rfl ?_
      refine p_ild (cc3 c167_24) rfl ?_
      obtain ⟨g2, h⟩ := h
      refine p_callV (cc3 c167_25) (Nat.le_of_ble_eq_true rfl) rfl rfl (Nat.le_of_ble_eq_true rfl) (ml_kd hΦ) (S160 (Nat.le_trans (by decide) hd) hΦ hR rr.1 g2) ?_
      refine i_ifB (cc3 c167_28) (fun c => ?_) (fun c => ?_)
      · have h := h.1 c
        refine p_lc (ls' := []) c167_47 rfl rfl ?_
        refine i_push (n := (-3)) (cct c167_47 rfl) zl_m3 ?_
        exact p_ri (cc3 c167_49) trivial h
      · have h := h.2 c
        refine p_ald (cc3 c167_31) rfl ?_
        refine p_ild (cc3 c167_32) rfl ?_
        refine p_ald (cc3 c167_33) rfl ?_
        refine pm_getp hΦ (cc3 c167_34) (c := 25) rfl (by decide) ?_
        refine p_ild (cc3 c167_37) rfl ?_
        obtain ⟨g3, h⟩ := h
        refine n_aldi hΦ (c := 25) (n := 8) (ni := 8) (cc3 c167_38) (by decide) rfl rfl rfl (by decide) g3 (v := A 25 x1) rfl ?_
        refine p_ild (cc3 c167_39) rfl ?_
        obtain ⟨g4, h⟩ := h
        refine (fun _ : Rg ((A 25 x1) + x2) => i_add (cc3 c167_40) ?_) g4
        obtain ⟨g5, h⟩ := h
        obtain ⟨g6, h⟩ := h
        obtain ⟨g7, h⟩ := h
        obtain ⟨g8, h⟩ := h
        refine p_callV (cc3 c167_41) (Nat.le_of_ble_eq_true rfl) rfl rfl (Nat.le_of_ble_eq_true rfl) (ml_kd hΦ) (S168 (Nat.le_trans (by decide) hd) hΦ hR ⟨rr.1, g4⟩ ⟨g5, g3, g6, g7, g8⟩) ?_
        refine i_ifB (cc3 c167_44) (fun c => ?_) (fun c => ?_)
        · have h := h.1 c
          refine p_lc (ls' := []) c167_47 rfl rfl ?_
          refine i_push (n := (-3)) (cct c167_47 rfl) zl_m3 ?_
          exact p_ri (cc3 c167_49) trivial h
        · have h := h.2 c
          refine p_ald (cc3 c167_50) rfl ?_
          refine pm_getp hΦ (cc3 c167_51) (c := 25) rfl (by decide) ?_
          refine p_ild (cc3 c167_54) rfl ?_
          refine p_dup2 (cc3 c167_55) rfl rfl ?_
          refine n_aldi hΦ (c := 25) (n := 8) (ni := 8) (cc3 c167_56) (by decide) rfl rfl rfl (by decide) g3 (v := A 25 x1) rfl ?_
          refine p_ild (cc3 c167_57) rfl ?_
          refine (fun _ : Rg ((A 25 x1) + x2) => i_add (cc3 c167_58) ?_) g4
          refine id (α := Rg ((A 25 x1) + x2) → _) (fun _ => ?_) g4; refine n_asti hΦ (c := 25) (n := 8) (ni := 8) (hv := rfl) (cc3 c167_59) (by decide) rfl rfl rfl (by decide) g3 ?_
          refine p_ald (cc3 c167_60) rfl ?_
          refine pm_getp hΦ (cc3 c167_61) (c := 25) rfl (by decide) ?_
          refine p_ild (cc3 c167_64) rfl ?_
          refine n_aldi hΦ (c := 25) (n := 8) (ni := 8) (cc3 c167_65) (by decide) rfl rfl rfl (by decide) g3 (v := (A 25 x1) + x2) (by first | rfl | exact UA_eq | simp [UA]) ?_
          exact p_ri (cc3 c167_66) trivial h
theorem S167 {d : Nat} (hd : 4 ≤ d) {m : Nat} {Φ : (Nat → Nat → Int32) → xM} (hΦ : MLaw m Φ) {A : Nat → Int → Int} (hR : RG A) {x1 x2 : Int} (rr : Rg x1 ∧ Rg x2) (hp : (BoltsOK A) ∧ (KiltsOK A)) : xev xT d 167 [.ref m, .int (iz x1), .int (iz x2)] (Φ (mI A)) (some (.int (iz (m_let_r A x1 x2)))) (Φ (mI (m_let_n A x1 x2))) := by
  refine xev_i (D := 3) hd (Nat.le_of_ble_eq_true rfl) (fun d hd => V167_0 hd hΦ hR rr ?_)

  obtain ⟨hb, hk⟩ := hp
  have hk0 := hk.1
  unfold m_let_r m_let_n
  refine ⟨hk0.1, fun h => ⟨?_, ?_⟩, fun h => ⟨fun h2 => ⟨?_, ?_⟩, fun h2 => ⟨hk0, fun h3 => ⟨?_, ?_⟩, fun h3 => ?_⟩⟩⟩
  · rw [if_neg (fun q => h q.1)]
  · rw [if_neg (fun q => h q.1.1)]
  · rw [if_neg (fun q => h2 q.2)]
  · rw [if_neg (fun q => h2 q.1.2)]
  · rw [if_pos ⟨h, h2⟩, if_neg (fun q => h3 ⟨h, q.1⟩)]
  · rw [if_neg (fun q => h3 ⟨h, q.2.1⟩)]
  obtain ⟨k1, k2⟩ := hk.2 x1 (by omega) (by omega)
  have a2 := (k2 h3.2).2.1
  refine ⟨by omega, by omega, hb, k1, k2, h3.2, fun h4 => ⟨?_, ?_⟩, fun h4 => ⟨?_, ?_⟩⟩
  · rw [if_pos ⟨h, h2⟩, if_neg (fun q => h4 q.2)]
  · rw [if_neg (fun q => h4 q.2.2)]
  · rw [if_pos ⟨h, h2⟩, if_pos ⟨h3.2, h4⟩]
  · rw [if_pos ⟨⟨h, h2⟩, h3.2, h4⟩]
def m_lk (A : Nat → Int → Int) : Int → Int := fun k => if A 20 k < 0 then 0 else 1
def m_count (A : Nat → Int → Int) (w : Int) : Int := if w = 0 then A 0 2 else if w = 1 then A 0 8 else if w = 2 then A 0 13 else if w = 3 then A 0 42 else if w = 4 then A 0 1 else if w = 5 then A 0 43 else if w = 6 then sm (m_lk A) (A 0 13).toNat else -2
theorem V195_0 {d : Nat} (hd : 0 ≤ d) {Q : Option Value → xM → Prop} {m : Nat} {Φ : (Nat → Nat → Int32) → xM} (hΦ : MLaw m Φ) {A : Nat → Int → Int} (hR : RG A) {x1 : Int} (rr : Rg x1) (h : (((x1 = 0) → Q (some (.int (iz (A 0 2)))) (Φ (mI A))) ∧ (¬ (x1 = 0) → ((x1 = 1) → Q (some (.int (iz (A 0 8)))) (Φ (mI A))) ∧ (¬ (x1 = 1) → ((x1 = 2) → Q (some (.int (iz (A 0 13)))) (Φ (mI A))) ∧ (¬ (x1 = 2) → ((x1 = 3) → Q (some (.int (iz (A 0 42)))) (Φ (mI A))) ∧ (¬ (x1 = 3) → ((x1 = 4) → Q (some (.int (iz (A 0 1)))) (Φ (mI A))) ∧ (¬ (x1 = 4) → ((x1 = 5) → Q (some (.int (iz (A 0 43)))) (Φ (mI A))) ∧ (¬ (x1 = 5) → ((x1 = 6) → wpE (xT 195) (xev xT d) Q (76, [(0, .ref m), (2, .int (iz 0)), (3, .int (iz 0))], [], Φ (mI A))) ∧ (¬ (x1 = 6) → Q (some (.int (iz (-2)))) (Φ (mI A))))))))))) : wpE (xT 195) (xev xT d) Q (0, [(0, .ref m), (1, .int (iz x1))], [], Φ (mI A)) := by
  refine i_push (n := 0) (cc3 c195_0) zl_0 ?_
  refine p_ist (ls' := [(2, .int (iz 0)), (0, .ref m), (1, .int (iz x1))]) (cc3 c195_1) (by decide) rfl ?_
  refine p_ild (cc3 c195_2) rfl ?_
  refine (fun _ : Rg x1 => p_sw (cc3 c195_3) ?_) rr
  refine sw_c (n := 0) rr zl_0 (by decide) (fun c => ?_) (fun c => ?_)
  · have h := h.1 c
    refine p_ald (cc3 c195_44) rfl ?_
    refine n_geti hΦ (v := A 0 2) (cc3 c195_45) (ji := 2) rfl rfl ?_
    exact p_ri (cc3 c195_48) trivial h
  · have h := h.2 c
    refine sw_c (n := 1) rr zl_1 (by decide) (fun c => ?_) (fun c => ?_)
    · have h := h.1 c
      refine p_ald (cc3 c195_49) rfl ?_
      refine n_geti hΦ (v := A 0 8) (cc3 c195_50) (ji := 8) rfl rfl ?_
      exact p_ri (cc3 c195_53) trivial h
    · have h := h.2 c
      refine sw_c (n := 2) rr zl_2 (by decide) (fun c => ?_) (fun c => ?_)
      · have h := h.1 c
        refine p_ald (cc3 c195_54) rfl ?_
        refine n_geti hΦ (v := A 0 13) (cc3 c195_55) (ji := 13) rfl rfl ?_
        exact p_ri (cc3 c195_58) trivial h
      · have h := h.2 c
        refine sw_c (n := 3) rr zl_3 (by decide) (fun c => ?_) (fun c => ?_)
        · have h := h.1 c
          refine p_ald (cc3 c195_59) rfl ?_
          refine n_geti hΦ (v := A 0 42) (cc3 c195_60) (ji := 42) rfl rfl ?_
          exact p_ri (cc3 c195_63) trivial h
        · have h := h.2 c
          refine sw_c (n := 4) rr zl_4 (by decide) (fun c => ?_) (fun c => ?_)
          · have h := h.1 c
            refine p_ald (cc3 c195_64) rfl ?_
            refine n_geti hΦ (v := A 0 1) (cc3 c195_65) (ji := 1) rfl rfl ?_
            exact p_ri (cc3 c195_68) trivial h
          · have h := h.2 c
            refine sw_c (n := 5) rr zl_5 (by decide) (fun c => ?_) (fun c => ?_)
            · have h := h.1 c
              refine p_ald (cc3 c195_69) rfl ?_
              refine n_geti hΦ (v := A 0 43) (cc3 c195_70) (ji := 43) rfl rfl ?_
              exact p_ri (cc3 c195_73) trivial h
            · have h := h.2 c
              refine sw_c (n := 6) rr zl_6 (by decide) (fun c => ?_) (fun c => ?_)
              · have h := h.1 c
                refine i_push (n := 0) (cc3 c195_74) zl_0 ?_
                refine p_ist (ls' := [(3, .int (iz 0)), (2, .int (iz 0)), (0, .ref m), (1, .int (iz x1))]) (cc3 c195_75) (by decide) rfl ?_
                exact p_lc (ls' := [(0, .ref m), (2, .int (iz 0)), (3, .int (iz 0))]) c195_76 rfl rfl h
              · have h := h.2 c
                refine sw_d ?_
                refine i_push (n := (-2)) (cc3 c195_109) zl_m2 ?_
                exact p_ri (cc3 c195_111) trivial h
theorem V195_76 {d : Nat} (hd : 0 ≤ d) {Q : Option Value → xM → Prop} {m : Nat} {Φ : (Nat → Nat → Int32) → xM} (hΦ : MLaw m Φ) {A : Nat → Int → Int} (hR : RG A) {x2 x3 : Int} (rr : Rg x2 ∧ Rg x3) (h : ((((A 0 13) ≤ x3) → Q (some (.int (iz x2))) (Φ (mI A))) ∧ (¬ ((A 0 13) ≤ x3) → (0 ≤ x3 ∧ x3 < 8) ∧ ((((A 20 x3) < 0) → (Rg (x2 + 0)) ∧ (Rg (x3 + 1)) ∧ wpE (xT 195) (xev xT d) Q (76, [(0, .ref m), (2, .int (iz (x2 + 0))), (3, .int (iz (x3 + 1)))], [], Φ (mI A))) ∧ (¬ ((A 20 x3) < 0) → (Rg (x2 + 1)) ∧ (Rg (x3 + 1)) ∧ wpE (xT 195) (xev xT d) Q (76, [(0, .ref m), (2, .int (iz (x2 + 1))), (3, .int (iz (x3 + 1)))], [], Φ (mI A))))))) : wpE (xT 195) (xev xT d) Q (76, [(0, .ref m), (2, .int (iz x2)), (3, .int (iz x3))], [], Φ (mI A)) := by
  refine p_ild (cct c195_76 rfl) rfl ?_
  refine p_ald (cc3 c195_77) rfl ?_
  refine n_geti hΦ (v := A 0 13) (cc3 c195_78) (ji := 13) rfl rfl ?_
  refine i_icmp (c' := (A 0 13) ≤ x3) (cc3 c195_81) (iz_le (hR 0 13) rr.2) (fun c => ?_) (fun c => ?_)
  · have h := h.1 c
    refine p_ild (cc3 c195_107) rfl ?_
    exact p_ri (cc3 c195_108) trivial h
  · have h := h.2 c
    refine p_ild (cc3 c195_84) rfl ?_
    refine p_ald (cc3 c195_85) rfl ?_
    refine pm_getp hΦ (cc3 c195_86) (c := 20) rfl (by decide) ?_
    refine p_ild (cc3 c195_89) rfl ?_
    obtain ⟨g1, h⟩ := h
    refine n_aldi hΦ (c := 20) (n := 8) (ni := 8) (cc3 c195_90) (by decide) rfl rfl rfl (by decide) g1 (v := A 20 x3) rfl ?_
    refine i_if (c' := (A 20 x3) < 0) (cc3 c195_91) (c_lt0 (hR 20 x3)) (fun c => ?_) (fun c => ?_)
    · have h := h.1 c
      refine i_push (n := 0) (cc3 c195_98) zl_0 ?_
      refine p_lc (ls' := [(0, .ref m), (3, .int (iz x3))]) c195_99 rfl rfl ?_
      obtain ⟨g2, h⟩ := h
      refine (fun _ : Rg (x2 + 0) => i_add (cct c195_99 rfl) ?_) g2
      refine p_ist (ls' := [(2, .int (iz (x2 + 0))), (0, .ref m), (3, .int (iz x3))]) (cc3 c195_100) (by decide) rfl ?_
      obtain ⟨g3, h⟩ := h
      refine (fun _ : Rg (x3 + 1) => i_iinc (n := 1) (y := x3 + 1) (ls' := [(3, .int (iz (x3 + 1))), (2, .int (iz (x2 + 0))), (0, .ref m)]) (cc3 c195_101) (by decide) rfl zl_1 (by first | rfl | omega) rfl ?_) g3
      refine p_goto (cc3 c195_104) ?_
      exact p_lc (ls' := [(0, .ref m), (2, .int (iz (x2 + 0))), (3, .int (iz (x3 + 1)))]) c195_76 rfl rfl h
    · have h := h.2 c
      refine i_push (n := 1) (cc3 c195_94) zl_1 ?_
      refine p_goto (cc3 c195_95) ?_
      refine p_lc (ls' := [(0, .ref m), (3, .int (iz x3))]) c195_99 rfl rfl ?_
      obtain ⟨g2, h⟩ := h
      refine (fun _ : Rg (x2 + 1) => i_add (cct c195_99 rfl) ?_) g2
      refine p_ist (ls' := [(2, .int (iz (x2 + 1))), (0, .ref m), (3, .int (iz x3))]) (cc3 c195_100) (by decide) rfl ?_
      obtain ⟨g3, h⟩ := h
      refine (fun _ : Rg (x3 + 1) => i_iinc (n := 1) (y := x3 + 1) (ls' := [(3, .int (iz (x3 + 1))), (2, .int (iz (x2 + 1))), (0, .ref m)]) (cc3 c195_101) (by decide) rfl zl_1 (by first | rfl | omega) rfl ?_) g3
      refine p_goto (cc3 c195_104) ?_
      exact p_lc (ls' := [(0, .ref m), (2, .int (iz (x2 + 1))), (3, .int (iz (x3 + 1)))]) c195_76 rfl rfl h

theorem L195 {d : Nat} {Q : Option Value → xM → Prop} {m : Nat} {Φ : (Nat → Nat → Int32) → xM} (hΦ : MLaw m Φ) {A : Nat → Int → Int} (hR : RG A) (hp : 0 ≤ A 0 13 ∧ A 0 13 ≤ 8) (hQ : Q (some (.int (iz (sm (m_lk A) (A 0 13).toNat)))) (Φ (mI A))) :
    ∀ (r k : Nat), (k : Int) + r = A 0 13 → wpE (xT 195) (xev xT d) Q (76, [(0, .ref m), (2, .int (iz (sm (m_lk A) k))), (3, .int (iz k))], [], Φ (mI A)) := by
  have hb : ∀ i : Nat, 0 ≤ sm (m_lk A) i ∧ sm (m_lk A) i ≤ i * 1 := fun i => ⟨sm_nn fun q _ => by unfold m_lk; split <;> omega, sm_le fun q _ => by unfold m_lk; split <;> omega⟩
  intro r
  induction r with
  | zero =>
    intro k hk
    have := hb k
    refine V195_76 (Nat.zero_le _) hΦ hR (by omega) ?_
    exact ⟨fun _ => by rw [show k = (A 0 13).toNat by omega]; exact hQ, fun h => absurd (show A 0 13 ≤ k by omega) h⟩
  | succ r ih =>
    intro k hk
    have := hb k
    have e : sm (m_lk A) (k + 1) = sm (m_lk A) k + (if A 20 k < 0 then 0 else 1) := rfl
    have ih' := ih (k + 1) (by omega)
    rw [e] at ih'
    refine V195_76 (Nat.zero_le _) hΦ hR (by omega) ?_
    refine ⟨fun h => absurd h (by omega), fun _ => ⟨by omega, fun c => ⟨by omega, by omega, ?_⟩, fun c => ⟨by omega, by omega, ?_⟩⟩⟩
    · rw [if_pos c] at ih'; exact ih'
    · rw [if_neg c] at ih'; exact (ih')
theorem S195 {d : Nat} (hd : 1 ≤ d) {m : Nat} {Φ : (Nat → Nat → Int32) → xM} (hΦ : MLaw m Φ) {A : Nat → Int → Int} (hR : RG A) {x1 : Int} (rr : Rg x1) (hp : (0 ≤ A 0 13 ∧ A 0 13 ≤ 8)) : xev xT d 195 [.ref m, .int (iz x1)] (Φ (mI A)) (some (.int (iz (m_count A x1)))) (Φ (mI A)) := by
  refine xev_i (D := 0) hd (Nat.le_of_ble_eq_true rfl) (fun d hd => V195_0 hd hΦ hR rr ?_)

  have hl := L195 (d := d) hΦ hR hp (Q := fun r' s' => r' = some (.int (iz (m_count A x1))) ∧ s' = Φ (mI A))
  have hz := hR 0 13
  repeat' (first | refine And.intro ?_ ?_ | intro _)
  all_goals (first | assumption | rfl | omega | (refine congrArg (fun z => some (Value.int (iz z))) ?_; unfold m_count; (repeat' split) <;> first | rfl | omega) | (refine hl ⟨?_, rfl⟩ (A 0 13).toNat 0 (by omega); unfold m_count; simp [*]))
def zrn (A : Nat → Int → Int) (s n : Int) : Nat → Int → Int := fun c j => if c = 45 ∧ 40 * s ≤ j ∧ j < 40 * s + n then 0 else A c j
theorem zrn_s {A : Nat → Int → Int} {s n : Int} (h : 0 ≤ n) : UA (zrn A s n) 45 (40 * s + n) 0 = zrn A s (n + 1) := by
  funext c j
  unfold UA zrn
  by_cases h1 : c = 45
  · by_cases h2 : j = 40 * s + n
    · rw [if_pos ⟨h1, h2⟩, if_pos ⟨h1, by omega, by omega⟩]
    · rw [if_neg (fun q => h2 q.2)]
      by_cases h3 : 40 * s ≤ j ∧ j < 40 * s + n
      · rw [if_pos ⟨h1, h3⟩, if_pos ⟨h1, by omega, by omega⟩]
      · rw [if_neg (fun q => h3 q.2), if_neg (fun q => h3 (by omega))]
  · rw [if_neg (fun q => h1 q.1), if_neg (fun q => h1 q.1), if_neg (fun q => h1 q.1)]
theorem zrn_0 {A : Nat → Int → Int} {s : Int} : zrn A s 0 = A := by
  funext c j
  unfold zrn
  rw [if_neg (by omega)]
theorem rg_zrn {A : Nat → Int → Int} {s n : Int} (h : RG A) : RG (zrn A s n) := fun c j => by
  unfold zrn; split
  · decide
  · exact h c j
abbrev m_sheet_ok (s how n : Int) : Prop := (0 ≤ s ∧ s ≤ 3) ∧ (-1 ≤ how ∧ how ≤ 2) ∧ (how < 0 ∨ n ≤ 40)
def m_sheet_r (s how n : Int) : Int := if m_sheet_ok s how n then (if 0 ≤ how ∧ n < 0 then -14 else 1) else -2
def m_sheet_n (A : Nat → Int → Int) (s how n : Int) : Nat → Int → Int := if m_sheet_ok s how n ∧ ¬ (0 ≤ how ∧ n < 0) then zrn (UA (UA A 43 s how) 44 s (if how < 0 then 0 else n)) s 40 else A
def m_cell_r (A : Nat → Int → Int) (s i : Int) : Int := if 0 ≤ s ∧ s ≤ 3 then (if A 43 s < 0 then -11 else if 0 ≤ i ∧ i ≤ A 44 s - 1 then 1 else -12) else -2
def m_cell_n (A : Nat → Int → Int) (s i w : Int) : Nat → Int → Int := if (0 ≤ s ∧ s ≤ 3) ∧ ¬ A 43 s < 0 ∧ (0 ≤ i ∧ i ≤ A 44 s - 1) then UA A 45 (40 * s + i) (if A 43 s = 0 then b8 w else if A 43 s = 1 then b16 w else w) else A
theorem V196_0 {d : Nat} (hd : 2 ≤ d) {Q : Option Value → xM → Prop} {m : Nat} {Φ : (Nat → Nat → Int32) → xM} (hΦ : MLaw m Φ) {A : Nat → Int → Int} (hR : RG A) {x1 x2 x3 : Int} (rr : Rg x1 ∧ Rg x2 ∧ Rg x3) (h : ((¬ (0 ≤ x1 ∧ x1 ≤ 3) → Q (some (.int (iz (-2)))) (Φ (mI A))) ∧ ((0 ≤ x1 ∧ x1 ≤ 3) → ((¬ ((-1) ≤ x2 ∧ x2 ≤ 2) → Q (some (.int (iz (-2)))) (Φ (mI A))) ∧ (((-1) ≤ x2 ∧ x2 ≤ 2) → (((x2 < 0) → (((x2 < 0) → (0 ≤ x1 ∧ x1 < 4) ∧ (((0 ≤ x2) → wpE (xT 196) (xev xT d) Q (67, [(0, .ref m), (1, .int (iz x1)), (4, .int (iz 0))], [], Φ (mI (UA (UA A 43 x1 x2) 44 x1 x3)))) ∧ (¬ (0 ≤ x2) → wpE (xT 196) (xev xT d) Q (67, [(0, .ref m), (1, .int (iz x1)), (4, .int (iz 0))], [], Φ (mI (UA (UA A 43 x1 x2) 44 x1 0)))))) ∧ (¬ (x2 < 0) → (((0 ≤ x3) → (0 ≤ x1 ∧ x1 < 4) ∧ (((0 ≤ x2) → wpE (xT 196) (xev xT d) Q (67, [(0, .ref m), (1, .int (iz x1)), (4, .int (iz 0))], [], Φ (mI (UA (UA A 43 x1 x2) 44 x1 x3)))) ∧ (¬ (0 ≤ x2) → wpE (xT 196) (xev xT d) Q (67, [(0, .ref m), (1, .int (iz x1)), (4, .int (iz 0))], [], Φ (mI (UA (UA A 43 x1 x2) 44 x1 0)))))) ∧ (¬ (0 ≤ x3) → Q (some (.int (iz (-14)))) (Φ (mI A))))))) ∧ (¬ (x2 < 0) → (((x3 ≤ 40) → (((x2 < 0) → (0 ≤ x1 ∧ x1 < 4) ∧ (((0 ≤ x2) → wpE (xT 196) (xev xT d) Q (67, [(0, .ref m), (1, .int (iz x1)), (4, .int (iz 0))], [], Φ (mI (UA (UA A 43 x1 x2) 44 x1 x3)))) ∧ (¬ (0 ≤ x2) → wpE (xT 196) (xev xT d) Q (67, [(0, .ref m), (1, .int (iz x1)), (4, .int (iz 0))], [], Φ (mI (UA (UA A 43 x1 x2) 44 x1 0)))))) ∧ (¬ (x2 < 0) → (((0 ≤ x3) → (0 ≤ x1 ∧ x1 < 4) ∧ (((0 ≤ x2) → wpE (xT 196) (xev xT d) Q (67, [(0, .ref m), (1, .int (iz x1)), (4, .int (iz 0))], [], Φ (mI (UA (UA A 43 x1 x2) 44 x1 x3)))) ∧ (¬ (0 ≤ x2) → wpE (xT 196) (xev xT d) Q (67, [(0, .ref m), (1, .int (iz x1)), (4, .int (iz 0))], [], Φ (mI (UA (UA A 43 x1 x2) 44 x1 0)))))) ∧ (¬ (0 ≤ x3) → Q (some (.int (iz (-14)))) (Φ (mI A))))))) ∧ (¬ (x3 ≤ 40) → Q (some (.int (iz (-2)))) (Φ (mI A))))))))))) : wpE (xT 196) (xev xT d) Q (0, [(0, .ref m), (1, .int (iz x1)), (2, .int (iz x2)), (3, .int (iz x3))], [], Φ (mI A)) := by
  refine p_ald (cc3 c196_0) rfl ?_
  refine p_ild (cc3 c196_1) rfl ?_
  refine p_callV (cc3 c196_2) (Nat.le_of_ble_eq_true rfl) rfl rfl (Nat.le_of_ble_eq_true rfl) (ml_kd hΦ) (S197 (Nat.le_trans (by decide) hd) hΦ hR rr.1) ?_
  refine i_ifB (cc3 c196_5) (fun c => ?_) (fun c => ?_)
  · have h := h.1 c
    refine p_lc (ls' := []) c196_28 rfl rfl ?_
    refine i_push (n := (-2)) (cct c196_28 rfl) zl_m2 ?_
    exact p_ri (cc3 c196_30) trivial h
  · have h := h.2 c
    refine p_ald (cc3 c196_8) rfl ?_
    refine p_ild (cc3 c196_9) rfl ?_
    refine i_push (n := (-1)) (cc3 c196_10) zl_m1 ?_
    refine i_push (n := 2) (cc3 c196_11) zl_2 ?_
    refine p_callV (cc3 c196_12) (Nat.le_of_ble_eq_true rfl) rfl rfl (Nat.le_of_ble_eq_true rfl) (ml_kd hΦ) (S129 (Nat.le_trans (by decide) hd) hΦ hR ⟨rr.2.1, (by decide), (by decide)⟩) ?_
    refine i_ifB (cc3 c196_15) (fun c => ?_) (fun c => ?_)
    · have h := h.1 c
      refine p_lc (ls' := []) c196_28 rfl rfl ?_
      refine i_push (n := (-2)) (cct c196_28 rfl) zl_m2 ?_
      exact p_ri (cc3 c196_30) trivial h
    · have h := h.2 c
      refine p_ild (cc3 c196_18) rfl ?_
      refine i_if (c' := x2 < 0) (cc3 c196_19) (c_lt0 rr.2.1) (fun c => ?_) (fun c => ?_)
      · have h := h.1 c
        refine p_ild (cct c196_31 rfl) rfl ?_
        refine i_if (c' := x2 < 0) (cc3 c196_32) (c_lt0 rr.2.1) (fun c => ?_) (fun c => ?_)
        · have h := h.1 c
          refine p_ald (cct c196_42 rfl) rfl ?_
          refine pm_getp hΦ (cc3 c196_43) (c := 43) rfl (by decide) ?_
          refine p_ild (cc3 c196_46) rfl ?_
          refine p_ild (cc3 c196_47) rfl ?_
          obtain ⟨g1, h⟩ := h
          refine id (α := Rg x2 → _) (fun _ => ?_) rr.2.1; refine n_asti hΦ (c := 43) (n := 4) (ni := 4) (hv := rfl) (cc3 c196_48) (by decide) rfl rfl rfl (by decide) g1 ?_
          refine p_ald (cc3 c196_49) rfl ?_
          refine pm_getp hΦ (cc3 c196_50) (c := 44) rfl (by decide) ?_
          refine p_ild (cc3 c196_53) rfl ?_
          refine p_ild (cc3 c196_54) rfl ?_
          refine i_if (c' := 0 ≤ x2) (cc3 c196_55) (c_ge0 rr.2.1) (fun c => ?_) (fun c => ?_)
          · have h := h.1 c
            refine p_ild (cc3 c196_62) rfl ?_
            refine p_lc (ls' := [(0, .ref m), (1, .int (iz x1))]) c196_63 rfl rfl ?_
            refine id (α := Rg x3 → _) (fun _ => ?_) rr.2.2; refine n_asti hΦ (c := 44) (n := 4) (ni := 4) (hv := rfl) (cct c196_63 rfl) (by decide) rfl rfl rfl (by decide) g1 ?_
            refine i_push (n := 0) (cc3 c196_64) zl_0 ?_
            refine p_ist (ls' := [(4, .int (iz 0)), (0, .ref m), (1, .int (iz x1))]) (cc3 c196_65) (by decide) rfl ?_
            exact p_lc (ls' := [(0, .ref m), (1, .int (iz x1)), (4, .int (iz 0))]) c196_67 rfl rfl h
          · have h := h.2 c
            refine i_push (n := 0) (cc3 c196_58) zl_0 ?_
            refine p_goto (cc3 c196_59) ?_
            refine p_lc (ls' := [(0, .ref m), (1, .int (iz x1))]) c196_63 rfl rfl ?_
            refine id (α := Rg 0 → _) (fun _ => ?_) (by decide); refine n_asti hΦ (c := 44) (n := 4) (ni := 4) (hv := rfl) (cct c196_63 rfl) (by decide) rfl rfl rfl (by decide) g1 ?_
            refine i_push (n := 0) (cc3 c196_64) zl_0 ?_
            refine p_ist (ls' := [(4, .int (iz 0)), (0, .ref m), (1, .int (iz x1))]) (cc3 c196_65) (by decide) rfl ?_
            exact p_lc (ls' := [(0, .ref m), (1, .int (iz x1)), (4, .int (iz 0))]) c196_67 rfl rfl h
        · have h := h.2 c
          refine p_ild (cc3 c196_35) rfl ?_
          refine i_if (c' := 0 ≤ x3) (cc3 c196_36) (c_ge0 rr.2.2) (fun c => ?_) (fun c => ?_)
          · have h := h.1 c
            refine p_ald (cct c196_42 rfl) rfl ?_
            refine pm_getp hΦ (cc3 c196_43) (c := 43) rfl (by decide) ?_
            refine p_ild (cc3 c196_46) rfl ?_
            refine p_ild (cc3 c196_47) rfl ?_
            obtain ⟨g1, h⟩ := h
            refine id (α := Rg x2 → _) (fun _ => ?_) rr.2.1; refine n_asti hΦ (c := 43) (n := 4) (ni := 4) (hv := rfl) (cc3 c196_48) (by decide) rfl rfl rfl (by decide) g1 ?_
            refine p_ald (cc3 c196_49) rfl ?_
            refine pm_getp hΦ (cc3 c196_50) (c := 44) rfl (by decide) ?_
            refine p_ild (cc3 c196_53) rfl ?_
            refine p_ild (cc3 c196_54) rfl ?_
            refine i_if (c' := 0 ≤ x2) (cc3 c196_55) (c_ge0 rr.2.1) (fun c => ?_) (fun c => ?_)
            · have h := h.1 c
              refine p_ild (cc3 c196_62) rfl ?_
              refine p_lc (ls' := [(0, .ref m), (1, .int (iz x1))]) c196_63 rfl rfl ?_
              refine id (α := Rg x3 → _) (fun _ => ?_) rr.2.2; refine n_asti hΦ (c := 44) (n := 4) (ni := 4) (hv := rfl) (cct c196_63 rfl) (by decide) rfl rfl rfl (by decide) g1 ?_
              refine i_push (n := 0) (cc3 c196_64) zl_0 ?_
              refine p_ist (ls' := [(4, .int (iz 0)), (0, .ref m), (1, .int (iz x1))]) (cc3 c196_65) (by decide) rfl ?_
              exact p_lc (ls' := [(0, .ref m), (1, .int (iz x1)), (4, .int (iz 0))]) c196_67 rfl rfl h
            · have h := h.2 c
              refine i_push (n := 0) (cc3 c196_58) zl_0 ?_
              refine p_goto (cc3 c196_59) ?_
              refine p_lc (ls' := [(0, .ref m), (1, .int (iz x1))]) c196_63 rfl rfl ?_
              refine id (α := Rg 0 → _) (fun _ => ?_) (by decide); refine n_asti hΦ (c := 44) (n := 4) (ni := 4) (hv := rfl) (cct c196_63 rfl) (by decide) rfl rfl rfl (by decide) g1 ?_
              refine i_push (n := 0) (cc3 c196_64) zl_0 ?_
              refine p_ist (ls' := [(4, .int (iz 0)), (0, .ref m), (1, .int (iz x1))]) (cc3 c196_65) (by decide) rfl ?_
              exact p_lc (ls' := [(0, .ref m), (1, .int (iz x1)), (4, .int (iz 0))]) c196_67 rfl rfl h
          · have h := h.2 c
            refine i_push (n := (-14)) (cc3 c196_39) zl_m14 ?_
            exact p_ri (cc3 c196_41) trivial h
      · have h := h.2 c
        refine p_ild (cc3 c196_22) rfl ?_
        refine i_push (n := 40) (cc3 c196_23) zl_40 ?_
        refine i_icmp (c' := x3 ≤ 40) (cc3 c196_25) (iz_le rr.2.2 (by decide)) (fun c => ?_) (fun c => ?_)
        · have h := h.1 c
          refine p_ild (cct c196_31 rfl) rfl ?_
          refine i_if (c' := x2 < 0) (cc3 c196_32) (c_lt0 rr.2.1) (fun c => ?_) (fun c => ?_)
          · have h := h.1 c
            refine p_ald (cct c196_42 rfl) rfl ?_
            refine pm_getp hΦ (cc3 c196_43) (c := 43) rfl (by decide) ?_
            refine p_ild (cc3 c196_46) rfl ?_
            refine p_ild (cc3 c196_47) rfl ?_
            obtain ⟨g1, h⟩ := h
            refine id (α := Rg x2 → _) (fun _ => ?_) rr.2.1; refine n_asti hΦ (c := 43) (n := 4) (ni := 4) (hv := rfl) (cc3 c196_48) (by decide) rfl rfl rfl (by decide) g1 ?_
            refine p_ald (cc3 c196_49) rfl ?_
            refine pm_getp hΦ (cc3 c196_50) (c := 44) rfl (by decide) ?_
            refine p_ild (cc3 c196_53) rfl ?_
            refine p_ild (cc3 c196_54) rfl ?_
            refine i_if (c' := 0 ≤ x2) (cc3 c196_55) (c_ge0 rr.2.1) (fun c => ?_) (fun c => ?_)
            · have h := h.1 c
              refine p_ild (cc3 c196_62) rfl ?_
              refine p_lc (ls' := [(0, .ref m), (1, .int (iz x1))]) c196_63 rfl rfl ?_
              refine id (α := Rg x3 → _) (fun _ => ?_) rr.2.2; refine n_asti hΦ (c := 44) (n := 4) (ni := 4) (hv := rfl) (cct c196_63 rfl) (by decide) rfl rfl rfl (by decide) g1 ?_
              refine i_push (n := 0) (cc3 c196_64) zl_0 ?_
              refine p_ist (ls' := [(4, .int (iz 0)), (0, .ref m), (1, .int (iz x1))]) (cc3 c196_65) (by decide) rfl ?_
              exact p_lc (ls' := [(0, .ref m), (1, .int (iz x1)), (4, .int (iz 0))]) c196_67 rfl rfl h
            · have h := h.2 c
              refine i_push (n := 0) (cc3 c196_58) zl_0 ?_
              refine p_goto (cc3 c196_59) ?_
              refine p_lc (ls' := [(0, .ref m), (1, .int (iz x1))]) c196_63 rfl rfl ?_
              refine id (α := Rg 0 → _) (fun _ => ?_) (by decide); refine n_asti hΦ (c := 44) (n := 4) (ni := 4) (hv := rfl) (cct c196_63 rfl) (by decide) rfl rfl rfl (by decide) g1 ?_
              refine i_push (n := 0) (cc3 c196_64) zl_0 ?_
              refine p_ist (ls' := [(4, .int (iz 0)), (0, .ref m), (1, .int (iz x1))]) (cc3 c196_65) (by decide) rfl ?_
              exact p_lc (ls' := [(0, .ref m), (1, .int (iz x1)), (4, .int (iz 0))]) c196_67 rfl rfl h
          · have h := h.2 c
            refine p_ild (cc3 c196_35) rfl ?_
            refine i_if (c' := 0 ≤ x3) (cc3 c196_36) (c_ge0 rr.2.2) (fun c => ?_) (fun c => ?_)
            · have h := h.1 c
              refine p_ald (cct c196_42 rfl) rfl ?_
              refine pm_getp hΦ (cc3 c196_43) (c := 43) rfl (by decide) ?_
              refine p_ild (cc3 c196_46) rfl ?_
              refine p_ild (cc3 c196_47) rfl ?_
              obtain ⟨g1, h⟩ := h
              refine id (α := Rg x2 → _) (fun _ => ?_) rr.2.1; refine n_asti hΦ (c := 43) (n := 4) (ni := 4) (hv := rfl) (cc3 c196_48) (by decide) rfl rfl rfl (by decide) g1 ?_
              refine p_ald (cc3 c196_49) rfl ?_
              refine pm_getp hΦ (cc3 c196_50) (c := 44) rfl (by decide) ?_
              refine p_ild (cc3 c196_53) rfl ?_
              refine p_ild (cc3 c196_54) rfl ?_
              refine i_if (c' := 0 ≤ x2) (cc3 c196_55) (c_ge0 rr.2.1) (fun c => ?_) (fun c => ?_)
              · have h := h.1 c
                refine p_ild (cc3 c196_62) rfl ?_
                refine p_lc (ls' := [(0, .ref m), (1, .int (iz x1))]) c196_63 rfl rfl ?_
                refine id (α := Rg x3 → _) (fun _ => ?_) rr.2.2; refine n_asti hΦ (c := 44) (n := 4) (ni := 4) (hv := rfl) (cct c196_63 rfl) (by decide) rfl rfl rfl (by decide) g1 ?_
                refine i_push (n := 0) (cc3 c196_64) zl_0 ?_
                refine p_ist (ls' := [(4, .int (iz 0)), (0, .ref m), (1, .int (iz x1))]) (cc3 c196_65) (by decide) rfl ?_
                exact p_lc (ls' := [(0, .ref m), (1, .int (iz x1)), (4, .int (iz 0))]) c196_67 rfl rfl h
              · have h := h.2 c
                refine i_push (n := 0) (cc3 c196_58) zl_0 ?_
                refine p_goto (cc3 c196_59) ?_
                refine p_lc (ls' := [(0, .ref m), (1, .int (iz x1))]) c196_63 rfl rfl ?_
                refine id (α := Rg 0 → _) (fun _ => ?_) (by decide); refine n_asti hΦ (c := 44) (n := 4) (ni := 4) (hv := rfl) (cct c196_63 rfl) (by decide) rfl rfl rfl (by decide) g1 ?_
                refine i_push (n := 0) (cc3 c196_64) zl_0 ?_
                refine p_ist (ls' := [(4, .int (iz 0)), (0, .ref m), (1, .int (iz x1))]) (cc3 c196_65) (by decide) rfl ?_
                exact p_lc (ls' := [(0, .ref m), (1, .int (iz x1)), (4, .int (iz 0))]) c196_67 rfl rfl h
            · have h := h.2 c
              refine i_push (n := (-14)) (cc3 c196_39) zl_m14 ?_
              exact p_ri (cc3 c196_41) trivial h
        · have h := h.2 c
          refine p_lc (ls' := []) c196_28 rfl rfl ?_
          refine i_push (n := (-2)) (cct c196_28 rfl) zl_m2 ?_
          exact p_ri (cc3 c196_30) trivial h
theorem V196_67 {d : Nat} (hd : 2 ≤ d) {Q : Option Value → xM → Prop} {m : Nat} {Φ : (Nat → Nat → Int32) → xM} (hΦ : MLaw m Φ) {A : Nat → Int → Int} (hR : RG A) {x1 x4 : Int} (rr : Rg x1 ∧ Rg x4) (h : (((40 ≤ x4) → Q (some (.int (iz 1))) (Φ (mI A))) ∧ (¬ (40 ≤ x4) → (Rg (40 * x1)) ∧ (Rg ((40 * x1) + x4)) ∧ (0 ≤ ((40 * x1) + x4) ∧ ((40 * x1) + x4) < 160) ∧ (Rg (x4 + 1)) ∧ wpE (xT 196) (xev xT d) Q (67, [(0, .ref m), (1, .int (iz x1)), (4, .int (iz (x4 + 1)))], [], Φ (mI (UA A 45 ((40 * x1) + x4) 0)))))) : wpE (xT 196) (xev xT d) Q (67, [(0, .ref m), (1, .int (iz x1)), (4, .int (iz x4))], [], Φ (mI A)) := by
  refine p_ild (cct c196_67 rfl) rfl ?_
  refine i_push (n := 40) (cc3 c196_69) zl_40 ?_
  refine i_icmp (c' := 40 ≤ x4) (cc3 c196_71) (iz_le (by decide) rr.2) (fun c => ?_) (fun c => ?_)
  · have h := h.1 c
    refine i_push (n := 1) (cc3 c196_93) zl_1 ?_
    exact p_ri (cc3 c196_94) trivial h
  · have h := h.2 c
    refine p_ald (cc3 c196_74) rfl ?_
    refine pm_getp hΦ (cc3 c196_75) (c := 45) rfl (by decide) ?_
    refine i_push (n := 40) (cc3 c196_78) zl_40 ?_
    refine p_ild (cc3 c196_80) rfl ?_
    obtain ⟨g1, h⟩ := h
    refine (fun _ : Rg (40 * x1) => i_mul (cc3 c196_81) ?_) g1
    refine p_ild (cc3 c196_82) rfl ?_
    obtain ⟨g2, h⟩ := h
    refine (fun _ : Rg ((40 * x1) + x4) => i_add (cc3 c196_84) ?_) g2
    refine i_push (n := 0) (cc3 c196_85) zl_0 ?_
    obtain ⟨g3, h⟩ := h
    refine id (α := Rg 0 → _) (fun _ => ?_) (by decide); refine n_asti hΦ (c := 45) (n := 160) (ni := 160) (hv := rfl) (cc3 c196_86) (by decide) rfl rfl rfl (by decide) g3 ?_
    obtain ⟨g4, h⟩ := h
    refine (fun _ : Rg (x4 + 1) => i_iinc (n := 1) (y := x4 + 1) (ls' := [(4, .int (iz (x4 + 1))), (0, .ref m), (1, .int (iz x1))]) (cc3 c196_87) (by decide) rfl zl_1 (by first | rfl | omega) rfl ?_) g4
    refine p_goto (cc3 c196_90) ?_
    exact p_lc (ls' := [(0, .ref m), (1, .int (iz x1)), (4, .int (iz (x4 + 1)))]) c196_67 rfl rfl h

theorem L196 {d : Nat} (hd : 2 ≤ d) {Q : Option Value → xM → Prop} {m : Nat} {Φ : (Nat → Nat → Int32) → xM} (hΦ : MLaw m Φ) {A : Nat → Int → Int} (hR : RG A) {s : Int} (hs : 0 ≤ s ∧ s ≤ 3) (hQ : Q (some (.int (iz 1))) (Φ (mI (zrn A s 40)))) :
    ∀ (r k : Nat), k + r = 40 → wpE (xT 196) (xev xT d) Q (67, [(0, .ref m), (1, .int (iz s)), (4, .int (iz k))], [], Φ (mI (zrn A s k))) := by
  intro r
  induction r with
  | zero =>
    intro k hk
    refine V196_67 hd hΦ (rg_zrn hR) (by omega) ?_
    exact ⟨fun _ => by rw [show (k : Int) = 40 by omega]; exact hQ, fun h => absurd (show (40 : Int) ≤ k by omega) h⟩
  | succ r ih =>
    intro k hk
    refine V196_67 hd hΦ (rg_zrn hR) (by omega) ?_
    refine ⟨fun h => absurd h (by omega), fun _ => ⟨by omega, by omega, by omega, by omega, ?_⟩⟩
    rw [zrn_s (by omega)]
    exact ih (k + 1) (by omega)
theorem S196 {d : Nat} (hd : 3 ≤ d) {m : Nat} {Φ : (Nat → Nat → Int32) → xM} (hΦ : MLaw m Φ) {A : Nat → Int → Int} (hR : RG A) {x1 x2 x3 : Int} (rr : Rg x1 ∧ Rg x2 ∧ Rg x3) : xev xT d 196 [.ref m, .int (iz x1), .int (iz x2), .int (iz x3)] (Φ (mI A)) (some (.int (iz (m_sheet_r x1 x2 x3)))) (Φ (mI (m_sheet_n A x1 x2 x3))) := by
  refine xev_i (D := 2) hd (Nat.le_of_ble_eq_true rfl) (fun d hd => V196_0 hd hΦ hR rr ?_)

  have key : m_sheet_ok x1 x2 x3 → ¬ (0 ≤ x2 ∧ x3 < 0) → ∀ v, (if x2 < 0 then 0 else x3) = v → wpE (xT 196) (xev xT d) (fun r' s' => r' = some (.int (iz (m_sheet_r x1 x2 x3))) ∧ s' = Φ (mI (m_sheet_n A x1 x2 x3))) (67, [(0, .ref m), (1, .int (iz x1)), (4, .int (iz 0))], [], Φ (mI (UA (UA A 43 x1 x2) 44 x1 v))) := fun h1 h2 v hv => by
    have hv2 : Rg v := by rw [← hv]; split <;> omega
    have := L196 (d := d) (Q := fun r' s' => r' = some (.int (iz (m_sheet_r x1 x2 x3))) ∧ s' = Φ (mI (m_sheet_n A x1 x2 x3))) hd hΦ (rg_UA (rg_UA hR (c := 43) (j := x1) rr.2.1) (c := 44) (j := x1) hv2) (s := x1) h1.1 ⟨by unfold m_sheet_r; rw [if_pos h1, if_neg h2], by unfold m_sheet_n; rw [if_pos ⟨h1, h2⟩, hv]⟩ 40 0 rfl
    rw [show ((0 : Nat) : Int) = 0 from rfl, zrn_0] at this
    exact this
  repeat' (first | refine And.intro ?_ ?_ | intro _)
  all_goals (first | assumption | omega | (refine key (by unfold m_sheet_ok; omega) (by omega) _ ?_; split <;> omega) | (refine congrArg (fun z => some (Value.int (iz z))) ?_; unfold m_sheet_r m_sheet_ok; (repeat' split) <;> first | rfl | omega) | (refine congrArg (fun z => Φ (mI z)) ?_; unfold m_sheet_n m_sheet_ok; (repeat' split) <;> first | rfl | (exfalso; omega)))
theorem V198_0 {d : Nat} (hd : 2 ≤ d) {Q : Option Value → xM → Prop} {m : Nat} {Φ : (Nat → Nat → Int32) → xM} (hΦ : MLaw m Φ) {A : Nat → Int → Int} (hR : RG A) {x1 x2 x3 : Int} (rr : Rg x1 ∧ Rg x2 ∧ Rg x3) (h : ((¬ (0 ≤ x1 ∧ x1 ≤ 3) → Q (some (.int (iz (-2)))) (Φ (mI A))) ∧ ((0 ≤ x1 ∧ x1 ≤ 3) → (0 ≤ x1 ∧ x1 < 4) ∧ (((0 ≤ (A 43 x1)) → (Rg ((A 44 x1) - 1)) ∧ ((¬ (0 ≤ x2 ∧ x2 ≤ ((A 44 x1) - 1)) → Q (some (.int (iz (-12)))) (Φ (mI A))) ∧ ((0 ≤ x2 ∧ x2 ≤ ((A 44 x1) - 1)) → (Rg (40 * x1)) ∧ (Rg ((40 * x1) + x2)) ∧ ((((A 43 x1) = 0) → (0 ≤ ((40 * x1) + x2) ∧ ((40 * x1) + x2) < 160) ∧ Q (some (.int (iz 1))) (Φ (mI (UA A 45 ((40 * x1) + x2) (b8 x3))))) ∧ (¬ ((A 43 x1) = 0) → ((((A 43 x1) = 1) → (0 ≤ ((40 * x1) + x2) ∧ ((40 * x1) + x2) < 160) ∧ Q (some (.int (iz 1))) (Φ (mI (UA A 45 ((40 * x1) + x2) (b16 x3))))) ∧ (¬ ((A 43 x1) = 1) → (0 ≤ ((40 * x1) + x2) ∧ ((40 * x1) + x2) < 160) ∧ Q (some (.int (iz 1))) (Φ (mI (UA A 45 ((40 * x1) + x2) x3)))))))))) ∧ (¬ (0 ≤ (A 43 x1)) → Q (some (.int (iz (-11)))) (Φ (mI A))))))) : wpE (xT 198) (xev xT d) Q (0, [(0, .ref m), (1, .int (iz x1)), (2, .int (iz x2)), (3, .int (iz x3))], [], Φ (mI A)) := by
  refine p_ald (cc3 c198_0) rfl ?_
  refine p_ild (cc3 c198_1) rfl ?_
  refine p_callV (cc3 c198_2) (Nat.le_of_ble_eq_true rfl) rfl rfl (Nat.le_of_ble_eq_true rfl) (ml_kd hΦ) (S197 (Nat.le_trans (by decide) hd) hΦ hR rr.1) ?_
  refine i_ifB (cc3 c198_5) (fun c => ?_) (fun c => ?_)
  · have h := h.1 c
    refine i_push (n := (-2)) (cc3 c198_8) zl_m2 ?_
    exact p_ri (cc3 c198_10) trivial h
  · have h := h.2 c
    refine p_ald (cc3 c198_11) rfl ?_
    refine pm_getp hΦ (cc3 c198_12) (c := 43) rfl (by decide) ?_
    refine p_ild (cc3 c198_15) rfl ?_
    obtain ⟨g1, h⟩ := h
    refine n_aldi hΦ (c := 43) (n := 4) (ni := 4) (cc3 c198_16) (by decide) rfl rfl rfl (by decide) g1 (v := A 43 x1) rfl ?_
    refine i_if (c' := 0 ≤ (A 43 x1)) (cc3 c198_17) (c_ge0 (hR 43 x1)) (fun c => ?_) (fun c => ?_)
    · have h := h.1 c
      refine p_ald (cc3 c198_23) rfl ?_
      refine p_ild (cc3 c198_24) rfl ?_
      refine i_push (n := 0) (cc3 c198_25) zl_0 ?_
      refine p_ald (cc3 c198_26) rfl ?_
      refine pm_getp hΦ (cc3 c198_27) (c := 44) rfl (by decide) ?_
      refine p_ild (cc3 c198_30) rfl ?_
      refine n_aldi hΦ (c := 44) (n := 4) (ni := 4) (cc3 c198_31) (by decide) rfl rfl rfl (by decide) g1 (v := A 44 x1) rfl ?_
      refine i_push (n := 1) (cc3 c198_32) zl_1 ?_
      obtain ⟨g2, h⟩ := h
      refine (fun _ : Rg ((A 44 x1) - 1) => i_sub (cc3 c198_33) ?_) g2
      refine p_callV (cc3 c198_34) (Nat.le_of_ble_eq_true rfl) rfl rfl (Nat.le_of_ble_eq_true rfl) (ml_kd hΦ) (S129 (Nat.le_trans (by decide) hd) hΦ hR ⟨rr.2.1, (by decide), g2⟩) ?_
      refine i_ifB (cc3 c198_37) (fun c => ?_) (fun c => ?_)
      · have h := h.1 c
        refine i_push (n := (-12)) (cc3 c198_40) zl_m12 ?_
        exact p_ri (cc3 c198_42) trivial h
      · have h := h.2 c
        refine p_ald (cc3 c198_43) rfl ?_
        refine pm_getp hΦ (cc3 c198_44) (c := 45) rfl (by decide) ?_
        refine i_push (n := 40) (cc3 c198_47) zl_40 ?_
        refine p_ild (cc3 c198_49) rfl ?_
        obtain ⟨g3, h⟩ := h
        refine (fun _ : Rg (40 * x1) => i_mul (cc3 c198_50) ?_) g3
        refine p_ild (cc3 c198_51) rfl ?_
        obtain ⟨g4, h⟩ := h
        refine (fun _ : Rg ((40 * x1) + x2) => i_add (cc3 c198_52) ?_) g4
        refine p_ald (cc3 c198_53) rfl ?_
        refine pm_getp hΦ (cc3 c198_54) (c := 43) rfl (by decide) ?_
        refine p_ild (cc3 c198_57) rfl ?_
        refine n_aldi hΦ (c := 43) (n := 4) (ni := 4) (cc3 c198_58) (by decide) rfl rfl rfl (by decide) g1 (v := A 43 x1) rfl ?_
        refine i_if (c' := (A 43 x1) = 0) (cc3 c198_59) (c_eq0 (hR 43 x1)) (fun c => ?_) (fun c => ?_)
        · have h := h.1 c
          refine p_ild (cc3 c198_62) rfl ?_
          refine i_un (z := b8 x3) (cc3 c198_63) (iz_of _).symm ?_
          refine p_goto (cc3 c198_64) ?_
          refine p_lc (ls' := []) c198_83 rfl rfl ?_
          obtain ⟨g5, h⟩ := h
          refine id (α := Rg (b8 x3) → _) (fun _ => ?_) rg_b8; refine n_asti hΦ (c := 45) (n := 160) (ni := 160) (hv := rfl) (cct c198_83 rfl) (by decide) rfl rfl rfl (by decide) g5 ?_
          refine i_push (n := 1) (cc3 c198_84) zl_1 ?_
          exact p_ri (cc3 c198_85) trivial h
        · have h := h.2 c
          refine p_ald (cc3 c198_67) rfl ?_
          refine pm_getp hΦ (cc3 c198_68) (c := 43) rfl (by decide) ?_
          refine p_ild (cc3 c198_71) rfl ?_
          refine n_aldi hΦ (c := 43) (n := 4) (ni := 4) (cc3 c198_72) (by decide) rfl rfl rfl (by decide) g1 (v := A 43 x1) rfl ?_
          refine i_push (n := 1) (cc3 c198_73) zl_1 ?_
          refine i_icmp (c' := (A 43 x1) = 1) (cc3 c198_74) (iz_inj (hR 43 x1) (by decide)) (fun c => ?_) (fun c => ?_)
          · have h := h.1 c
            refine p_ild (cc3 c198_77) rfl ?_
            refine i_un (z := b16 x3) (cc3 c198_78) (iz_of _).symm ?_
            refine p_goto (cc3 c198_79) ?_
            refine p_lc (ls' := []) c198_83 rfl rfl ?_
            obtain ⟨g5, h⟩ := h
            refine id (α := Rg (b16 x3) → _) (fun _ => ?_) rg_b16; refine n_asti hΦ (c := 45) (n := 160) (ni := 160) (hv := rfl) (cct c198_83 rfl) (by decide) rfl rfl rfl (by decide) g5 ?_
            refine i_push (n := 1) (cc3 c198_84) zl_1 ?_
            exact p_ri (cc3 c198_85) trivial h
          · have h := h.2 c
            refine p_ild (cc3 c198_82) rfl ?_
            refine p_lc (ls' := []) c198_83 rfl rfl ?_
            obtain ⟨g5, h⟩ := h
            refine id (α := Rg x3 → _) (fun _ => ?_) rr.2.2; refine n_asti hΦ (c := 45) (n := 160) (ni := 160) (hv := rfl) (cct c198_83 rfl) (by decide) rfl rfl rfl (by decide) g5 ?_
            refine i_push (n := 1) (cc3 c198_84) zl_1 ?_
            exact p_ri (cc3 c198_85) trivial h
    · have h := h.2 c
      refine i_push (n := (-11)) (cc3 c198_20) zl_m11 ?_
      exact p_ri (cc3 c198_22) trivial h
theorem S198 {d : Nat} (hd : 3 ≤ d) {m : Nat} {Φ : (Nat → Nat → Int32) → xM} (hΦ : MLaw m Φ) {A : Nat → Int → Int} (hR : RG A) {x1 x2 x3 : Int} (rr : Rg x1 ∧ Rg x2 ∧ Rg x3) (hp : (SheetsOK A)) : xev xT d 198 [.ref m, .int (iz x1), .int (iz x2), .int (iz x3)] (Φ (mI A)) (some (.int (iz (m_cell_r A x1 x2)))) (Φ (mI (m_cell_n A x1 x2 x3))) := by
  refine xev_i (D := 2) hd (Nat.le_of_ble_eq_true rfl) (fun d hd => V198_0 hd hΦ hR rr ?_)

  have h1 := hp x1
  repeat' (first | refine And.intro ?_ ?_ | intro _)
  all_goals (first | assumption | rfl | omega | (refine congrArg (fun z => some (Value.int (iz z))) ?_; first | omega | (unfold m_cell_r; (repeat' split) <;> first | rfl | omega | (exfalso; omega))) | (refine congrArg (fun z => Φ (mI z)) ?_; (unfold m_cell_n; (repeat' split) <;> first | rfl | omega | (exfalso; omega))))
