theorem mul_b {a b M N : Int} (ha : 0 ≤ a) (hM : a ≤ M) (hb : 0 ≤ b) (hN : b ≤ N) : 0 ≤ a * b ∧ a * b ≤ M * N := ⟨Int.mul_nonneg ha hb, Int.mul_le_mul hM hN hb (by omega)⟩
theorem tdiv_b {x y : Int} (hx : 0 ≤ x) : 0 ≤ x.tdiv y ∨ y < 0 := by
  by_cases h : y < 0
  · exact Or.inr h
  · exact Or.inl (Int.tdiv_nonneg hx (by omega))
theorem tdiv_le {x y M : Int} (hx : 0 ≤ x) (hM : x ≤ M) (hy : 0 < y) : 0 ≤ x.tdiv y ∧ x.tdiv y ≤ M := by
  refine ⟨Int.tdiv_nonneg hx (by omega), ?_⟩
  rw [tdiv_pos hx]
  exact Int.le_trans (Int.ediv_le_self _ hx) hM
theorem tmod_emod {x y : Int} (hy : 0 < y) : (if 0 ≤ x.tmod y then x.tmod y else x.tmod y + y) = x % y := by
  have h1 := Int.tmod_eq_emod (a := x) (b := y)
  have h2 := Int.emod_nonneg x (b := y) (by omega)
  have h3 := Int.emod_lt_of_pos x hy
  have e : (y.natAbs : Int) = y := by omega
  split at h1
  · rename_i h
    rw [h1]
    split <;> omega
  · rename_i h
    rw [h1, e]
    split
    · omega
    · omega
def m_thread (A : Nat → Int → Int) (s x : Int) : Int := if (0 ≤ s ∧ s ≤ A 0 2 - 1) ∧ 0 ≤ x then m_col A s x else -2
def m_twill (A : Nat → Int → Int) (s x y : Int) : Int := if (0 ≤ s ∧ s ≤ A 0 2 - 1) ∧ (0 ≤ x ∧ x ≤ 99999) ∧ (0 ≤ y ∧ y ≤ 99999) then m_col A s (if (x + y) % 4 < 2 then x else y) else -2
def m_stripe (A : Nat → Int → Int) (s k w : Int) : Int := if (0 ≤ s ∧ s ≤ A 0 2 - 1) ∧ (0 ≤ k ∧ k ≤ A 2 s - 1) ∧ (0 ≤ w ∧ w ≤ 2) then (if w = 0 then A 4 (10 * s + k) else if w = 1 then A 5 (10 * s + k) else m_centre A s k) else -2
/-- a sett's numbers -/
def m_per (A : Nat → Int → Int) (s : Int) : Int := sm (fun k => m_w A s k * (if A 6 s = 1 ∧ 0 < k ∧ k < A 2 s - 1 then 2 else 1)) (A 2 s).toNat
def SettOK (A : Nat → Int → Int) (s : Int) : Prop := (1 ≤ A 2 s ∧ A 2 s ≤ 10) ∧ (1 ≤ A 3 s ∧ A 3 s ≤ 400) ∧ (A 6 s = 0 ∨ A 6 s = 1) ∧ (∀ k : Int, 0 ≤ k → k < A 2 s → (0 ≤ A 4 (10 * s + k) ∧ A 4 (10 * s + k) ≤ 7) ∧ 1 ≤ A 5 (10 * s + k) ∧ A 5 (10 * s + k) ≤ 999) ∧ A 3 s = m_per A s
def SettsOK (A : Nat → Int → Int) : Prop := (0 ≤ A 0 2 ∧ A 0 2 ≤ 4) ∧ ∀ s : Int, 0 ≤ s → s < A 0 2 → SettOK A s
theorem V138_0 {d : Nat} (hd : 2 ≤ d) {Q : Option Value → xM → Prop} {m : Nat} {Φ : (Nat → Nat → Int32) → xM} (hΦ : MLaw m Φ) {A : Nat → Int → Int} (hR : RG A) {x1 x2 : Int} (rr : Rg x1 ∧ Rg x2) (h : (0 ≤ A 0 2) ∧ ((¬ (0 ≤ x1 ∧ x1 ≤ A 0 2 - 1) → Q (some (.int (iz (-2)))) (Φ (mI A))) ∧ ((0 ≤ x1 ∧ x1 ≤ A 0 2 - 1) → (((x2 < 0) → Q (some (.int (iz (-2)))) (Φ (mI A))) ∧ (¬ (x2 < 0) → (0 ≤ x1 ∧ x1 < 5) ∧ (0 < A 3 x1) ∧ (0 ≤ A 2 x1 ∧ A 2 x1 ≤ 10) ∧ (0 ≤ x2) ∧ (∀ k : Int, 0 ≤ k → k < A 2 x1 → 0 ≤ A 5 (10 * x1 + k)) ∧ Q (some (.int (iz (m_col A x1 x2)))) (Φ (mI A))))))) : wpE (xT 138) (xev xT d) Q (0, [(0, .ref m), (1, .int (iz x1)), (2, .int (iz x2))], [], Φ (mI A)) := by
  refine p_ald (cc3 c138_0) rfl ?_
  refine p_ild (cc3 c138_1) rfl ?_
  obtain ⟨g1, h⟩ := h
  refine p_callV (cc3 c138_2) (Nat.le_of_ble_eq_true rfl) rfl rfl (Nat.le_of_ble_eq_true rfl) (ml_kd hΦ) (S135 (Nat.le_trans (by decide) hd) hΦ hR rr.1 g1) ?_
  refine i_ifB (cc3 c138_5) (fun c => ?_) (fun c => ?_)
  · have h := h.1 c
    refine p_lc (ls' := []) c138_21 rfl rfl ?_
    refine i_push (n := (-2)) (cct c138_21 rfl) zl_m2 ?_
    exact p_ri (cct c138_23 rfl) trivial h
  · have h := h.2 c
    refine p_ild (cc3 c138_8) rfl ?_
    refine i_if (c' := x2 < 0) (cc3 c138_9) (c_lt0 rr.2) (fun c => ?_) (fun c => ?_)
    · have h := h.1 c
      refine p_lc (ls' := []) c138_21 rfl rfl ?_
      refine i_push (n := (-2)) (cct c138_21 rfl) zl_m2 ?_
      exact p_ri (cct c138_23 rfl) trivial h
    · have h := h.2 c
      refine p_ald (cc3 c138_12) rfl ?_
      refine p_ild (cc3 c138_13) rfl ?_
      refine p_ild (cc3 c138_14) rfl ?_
      obtain ⟨g2, h⟩ := h
      obtain ⟨g3, h⟩ := h
      obtain ⟨g4, h⟩ := h
      obtain ⟨g5, h⟩ := h
      obtain ⟨g6, h⟩ := h
      refine p_callV (cc3 c138_15) (Nat.le_of_ble_eq_true rfl) rfl rfl (Nat.le_of_ble_eq_true rfl) (ml_kd hΦ) (S139 (Nat.le_trans (by decide) hd) hΦ hR ⟨rr.1, rr.2⟩ ⟨g2, g3, g4, g5, g6⟩) ?_
      refine p_goto (cc3 c138_18) ?_
      refine p_lc (ls' := []) c138_23 rfl rfl ?_
      exact p_ri (cct c138_23 rfl) trivial h
theorem S138 {d : Nat} (hd : 3 ≤ d) {m : Nat} {Φ : (Nat → Nat → Int32) → xM} (hΦ : MLaw m Φ) {A : Nat → Int → Int} (hR : RG A) {x1 x2 : Int} (rr : Rg x1 ∧ Rg x2) (hp : (SettsOK A)) : xev xT d 138 [.ref m, .int (iz x1), .int (iz x2)] (Φ (mI A)) (some (.int (iz (m_thread A x1 x2)))) (Φ (mI A)) := by
  refine xev_i (D := 2) hd (Nat.le_of_ble_eq_true rfl) (fun d hd => V138_0 hd hΦ hR rr ?_)

  obtain ⟨h0, h1⟩ := hp
  refine ⟨h0.1, fun h => ⟨?_, rfl⟩, fun h => ?_⟩
  · unfold m_thread; rw [if_neg (by omega)]
  obtain ⟨s1, s2, s3, s4, -⟩ := h1 x1 (by omega) (by omega)
  refine ⟨fun h2 => ⟨?_, rfl⟩, fun h2 => ⟨by omega, by omega, by omega, by omega, fun k k1 k2 => by have := (s4 k k1 k2).2; omega, ?_, rfl⟩⟩
  · unfold m_thread; rw [if_neg (by omega)]
  · unfold m_thread; rw [if_pos (by omega)]
theorem V140_0 {d : Nat} (hd : 2 ≤ d) {Q : Option Value → xM → Prop} {m : Nat} {Φ : (Nat → Nat → Int32) → xM} (hΦ : MLaw m Φ) {A : Nat → Int → Int} (hR : RG A) {x1 x2 x3 : Int} (rr : Rg x1 ∧ Rg x2 ∧ Rg x3) (h : (0 ≤ A 0 2) ∧ ((¬ (0 ≤ x1 ∧ x1 ≤ A 0 2 - 1) → Q (some (.int (iz (-2)))) (Φ (mI A))) ∧ ((0 ≤ x1 ∧ x1 ≤ A 0 2 - 1) → ((¬ (0 ≤ x2 ∧ x2 ≤ 99999) → Q (some (.int (iz (-2)))) (Φ (mI A))) ∧ ((0 ≤ x2 ∧ x2 ≤ 99999) → ((¬ (0 ≤ x3 ∧ x3 ≤ 99999) → Q (some (.int (iz (-2)))) (Φ (mI A))) ∧ ((0 ≤ x3 ∧ x3 ≤ 99999) → (Rg (x2 + x3)) ∧ (((2 ≤ ((x2 + x3).tmod 4)) → (0 ≤ x1 ∧ x1 < 5) ∧ (0 < A 3 x1) ∧ (0 ≤ A 2 x1 ∧ A 2 x1 ≤ 10) ∧ (0 ≤ x3) ∧ (∀ k : Int, 0 ≤ k → k < A 2 x1 → 0 ≤ A 5 (10 * x1 + k)) ∧ Q (some (.int (iz (m_col A x1 x3)))) (Φ (mI A))) ∧ (¬ (2 ≤ ((x2 + x3).tmod 4)) → (0 ≤ x1 ∧ x1 < 5) ∧ (0 < A 3 x1) ∧ (0 ≤ A 2 x1 ∧ A 2 x1 ≤ 10) ∧ (0 ≤ x2) ∧ (∀ k : Int, 0 ≤ k → k < A 2 x1 → 0 ≤ A 5 (10 * x1 + k)) ∧ Q (some (.int (iz (m_col A x1 x2)))) (Φ (mI A))))))))))) : wpE (xT 140) (xev xT d) Q (0, [(0, .ref m), (1, .int (iz x1)), (2, .int (iz x2)), (3, .int (iz x3))], [], Φ (mI A)) := by
  refine p_ald (cc3 c140_0) rfl ?_
  refine p_ild (cc3 c140_1) rfl ?_
  obtain ⟨g1, h⟩ := h
  refine p_callV (cc3 c140_2) (Nat.le_of_ble_eq_true rfl) rfl rfl (Nat.le_of_ble_eq_true rfl) (ml_kd hΦ) (S135 (Nat.le_trans (by decide) hd) hΦ hR rr.1 g1) ?_
  refine i_ifB (cc3 c140_5) (fun c => ?_) (fun c => ?_)
  · have h := h.1 c
    refine p_lc (ls' := []) c140_30 rfl rfl ?_
    refine i_push (n := (-2)) (cct c140_30 rfl) zl_m2 ?_
    exact p_ri (cc3 c140_32) trivial h
  · have h := h.2 c
    refine p_ald (cc3 c140_8) rfl ?_
    refine p_ild (cc3 c140_9) rfl ?_
    refine i_push (n := 0) (cc3 c140_10) zl_0 ?_
    refine i_push (n := 99999) (cc3 c140_11) zl_99999 ?_
    refine p_callV (cc3 c140_13) (Nat.le_of_ble_eq_true rfl) rfl rfl (Nat.le_of_ble_eq_true rfl) (ml_kd hΦ) (S129 (Nat.le_trans (by decide) hd) hΦ hR ⟨rr.2.1, (by decide), (by decide)⟩) ?_
    refine i_ifB (cc3 c140_16) (fun c => ?_) (fun c => ?_)
    · have h := h.1 c
      refine p_lc (ls' := []) c140_30 rfl rfl ?_
      refine i_push (n := (-2)) (cct c140_30 rfl) zl_m2 ?_
      exact p_ri (cc3 c140_32) trivial h
    · have h := h.2 c
      refine p_ald (cc3 c140_19) rfl ?_
      refine p_ild (cc3 c140_20) rfl ?_
      refine i_push (n := 0) (cc3 c140_21) zl_0 ?_
      refine i_push (n := 99999) (cc3 c140_22) zl_99999 ?_
      refine p_callV (cc3 c140_24) (Nat.le_of_ble_eq_true rfl) rfl rfl (Nat.le_of_ble_eq_true rfl) (ml_kd hΦ) (S129 (Nat.le_trans (by decide) hd) hΦ hR ⟨rr.2.2, (by decide), (by decide)⟩) ?_
      refine i_ifB (cc3 c140_27) (fun c => ?_) (fun c => ?_)
      · have h := h.1 c
        refine p_lc (ls' := []) c140_30 rfl rfl ?_
        refine i_push (n := (-2)) (cct c140_30 rfl) zl_m2 ?_
        exact p_ri (cc3 c140_32) trivial h
      · have h := h.2 c
        refine p_ald (cc3 c140_33) rfl ?_
        refine p_ild (cc3 c140_34) rfl ?_
        refine p_ild (cc3 c140_35) rfl ?_
        refine p_ild (cc3 c140_36) rfl ?_
        obtain ⟨g2, h⟩ := h
        refine (fun _ : Rg (x2 + x3) => i_add (cc3 c140_37) ?_) g2
        refine i_push (n := 4) (cc3 c140_38) zl_4 ?_
        refine i_rem (cc3 c140_39) g2 (by decide) ?_
        refine i_push (n := 2) (cc3 c140_40) zl_2 ?_
        refine i_icmp (c' := 2 ≤ ((x2 + x3).tmod 4)) (cc3 c140_41) (iz_le (by decide) (rg_tmod g2 (by decide : 0 < (4 : Int) ∧ (4 : Int) ≤ 2147483647).1)) (fun c => ?_) (fun c => ?_)
        · have h := h.1 c
          refine p_ild (cc3 c140_48) rfl ?_
          refine p_lc (ls' := []) c140_49 rfl rfl ?_
          obtain ⟨g3, h⟩ := h
          obtain ⟨g4, h⟩ := h
          obtain ⟨g5, h⟩ := h
          obtain ⟨g6, h⟩ := h
          obtain ⟨g7, h⟩ := h
          refine p_callV (cct c140_49 rfl) (Nat.le_of_ble_eq_true rfl) rfl rfl (Nat.le_of_ble_eq_true rfl) (ml_kd hΦ) (S139 (Nat.le_trans (by decide) hd) hΦ hR ⟨rr.1, rr.2.2⟩ ⟨g3, g4, g5, g6, g7⟩) ?_
          exact p_ri (cc3 c140_52) trivial h
        · have h := h.2 c
          refine p_ild (cc3 c140_44) rfl ?_
          refine p_goto (cc3 c140_45) ?_
          refine p_lc (ls' := []) c140_49 rfl rfl ?_
          obtain ⟨g3, h⟩ := h
          obtain ⟨g4, h⟩ := h
          obtain ⟨g5, h⟩ := h
          obtain ⟨g6, h⟩ := h
          obtain ⟨g7, h⟩ := h
          refine p_callV (cct c140_49 rfl) (Nat.le_of_ble_eq_true rfl) rfl rfl (Nat.le_of_ble_eq_true rfl) (ml_kd hΦ) (S139 (Nat.le_trans (by decide) hd) hΦ hR ⟨rr.1, rr.2.1⟩ ⟨g3, g4, g5, g6, g7⟩) ?_
          exact p_ri (cc3 c140_52) trivial h
theorem S140 {d : Nat} (hd : 3 ≤ d) {m : Nat} {Φ : (Nat → Nat → Int32) → xM} (hΦ : MLaw m Φ) {A : Nat → Int → Int} (hR : RG A) {x1 x2 x3 : Int} (rr : Rg x1 ∧ Rg x2 ∧ Rg x3) (hp : (SettsOK A)) : xev xT d 140 [.ref m, .int (iz x1), .int (iz x2), .int (iz x3)] (Φ (mI A)) (some (.int (iz (m_twill A x1 x2 x3)))) (Φ (mI A)) := by
  refine xev_i (D := 2) hd (Nat.le_of_ble_eq_true rfl) (fun d hd => V140_0 hd hΦ hR rr ?_)

  obtain ⟨h0, h1⟩ := hp
  refine ⟨h0.1, fun h => ⟨?_, rfl⟩, fun h => ?_⟩
  · unfold m_twill; rw [if_neg (by omega)]
  obtain ⟨s1, s2, s3, s4, -⟩ := h1 x1 (by omega) (by omega)
  refine ⟨fun h2 => ⟨?_, rfl⟩, fun h2 => ⟨fun h3 => ⟨?_, rfl⟩, fun h3 => ?_⟩⟩
  · unfold m_twill; rw [if_neg (by omega)]
  · unfold m_twill; rw [if_neg (by omega)]
  rw [tmod_pos (show 0 ≤ x2 + x3 by omega)]
  have hk : ∀ k : Int, 0 ≤ k → k < A 2 x1 → 0 ≤ A 5 (10 * x1 + k) := fun k k1 k2 => by have := (s4 k k1 k2).2; omega
  refine ⟨by omega, fun h4 => ⟨by omega, by omega, by omega, by omega, hk, ?_, rfl⟩, fun h4 => ⟨by omega, by omega, by omega, by omega, hk, ?_, rfl⟩⟩
  · unfold m_twill; rw [if_pos (by omega), if_neg (by omega)]
  · unfold m_twill; rw [if_pos (by omega), if_pos (by omega)]
theorem V136_0 {d : Nat} (hd : 2 ≤ d) {Q : Option Value → xM → Prop} {m : Nat} {Φ : (Nat → Nat → Int32) → xM} (hΦ : MLaw m Φ) {A : Nat → Int → Int} (hR : RG A) {x1 x2 x3 : Int} (rr : Rg x1 ∧ Rg x2 ∧ Rg x3) (h : (0 ≤ A 0 2) ∧ ((¬ (0 ≤ x1 ∧ x1 ≤ A 0 2 - 1) → Q (some (.int (iz (-2)))) (Φ (mI A))) ∧ ((0 ≤ x1 ∧ x1 ≤ A 0 2 - 1) → (0 ≤ x1 ∧ x1 < 5) ∧ (Rg ((A 2 x1) - 1)) ∧ ((¬ (0 ≤ x2 ∧ x2 ≤ ((A 2 x1) - 1)) → Q (some (.int (iz (-2)))) (Φ (mI A))) ∧ ((0 ≤ x2 ∧ x2 ≤ ((A 2 x1) - 1)) → ((¬ (0 ≤ x3 ∧ x3 ≤ 2) → Q (some (.int (iz (-2)))) (Φ (mI A))) ∧ ((0 ≤ x3 ∧ x3 ≤ 2) → (((x3 = 0) → (Rg (10 * x1)) ∧ (Rg ((10 * x1) + x2)) ∧ (0 ≤ ((10 * x1) + x2) ∧ ((10 * x1) + x2) < 50) ∧ Q (some (.int (iz (A 4 ((10 * x1) + x2))))) (Φ (mI A))) ∧ (¬ (x3 = 0) → (((x3 = 1) → (Rg (10 * x1)) ∧ (Rg ((10 * x1) + x2)) ∧ (0 ≤ ((10 * x1) + x2) ∧ ((10 * x1) + x2) < 50) ∧ Q (some (.int (iz (A 5 ((10 * x1) + x2))))) (Φ (mI A))) ∧ (¬ (x3 = 1) → (0 ≤ x2 ∧ x2 < 10) ∧ (∀ k : Int, 0 ≤ k → k ≤ x2 → 0 ≤ A 5 (10 * x1 + k) ∧ A 5 (10 * x1 + k) ≤ 999) ∧ Q (some (.int (iz (m_centre A x1 x2)))) (Φ (mI A))))))))))))) : wpE (xT 136) (xev xT d) Q (0, [(0, .ref m), (1, .int (iz x1)), (2, .int (iz x2)), (3, .int (iz x3))], [], Φ (mI A)) := by
  refine p_ald (cc3 c136_0) rfl ?_
  refine p_ild (cc3 c136_1) rfl ?_
  obtain ⟨g1, h⟩ := h
  refine p_callV (cc3 c136_2) (Nat.le_of_ble_eq_true rfl) rfl rfl (Nat.le_of_ble_eq_true rfl) (ml_kd hΦ) (S135 (Nat.le_trans (by decide) hd) hΦ hR rr.1 g1) ?_
  refine i_ifB (cc3 c136_5) (fun c => ?_) (fun c => ?_)
  · have h := h.1 c
    refine p_lc (ls' := []) c136_35 rfl rfl ?_
    refine i_push (n := (-2)) (cct c136_35 rfl) zl_m2 ?_
    exact p_ri (cc3 c136_37) trivial h
  · have h := h.2 c
    refine p_ald (cc3 c136_8) rfl ?_
    refine p_ild (cc3 c136_9) rfl ?_
    refine i_push (n := 0) (cc3 c136_10) zl_0 ?_
    refine p_ald (cc3 c136_11) rfl ?_
    refine pm_getp hΦ (cc3 c136_12) (c := 2) rfl (by decide) ?_
    refine p_ild (cc3 c136_15) rfl ?_
    obtain ⟨g2, h⟩ := h
    refine n_aldi hΦ (c := 2) (n := 5) (ni := 5) (cc3 c136_16) (by decide) rfl rfl rfl (by decide) g2 (v := A 2 x1) rfl ?_
    refine i_push (n := 1) (cc3 c136_17) zl_1 ?_
    obtain ⟨g3, h⟩ := h
    refine (fun _ : Rg ((A 2 x1) - 1) => i_sub (cc3 c136_18) ?_) g3
    refine p_callV (cc3 c136_19) (Nat.le_of_ble_eq_true rfl) rfl rfl (Nat.le_of_ble_eq_true rfl) (ml_kd hΦ) (S129 (Nat.le_trans (by decide) hd) hΦ hR ⟨rr.2.1, (by decide), g3⟩) ?_
    refine i_ifB (cc3 c136_22) (fun c => ?_) (fun c => ?_)
    · have h := h.1 c
      refine p_lc (ls' := []) c136_35 rfl rfl ?_
      refine i_push (n := (-2)) (cct c136_35 rfl) zl_m2 ?_
      exact p_ri (cc3 c136_37) trivial h
    · have h := h.2 c
      refine p_ald (cc3 c136_25) rfl ?_
      refine p_ild (cc3 c136_26) rfl ?_
      refine i_push (n := 0) (cc3 c136_27) zl_0 ?_
      refine i_push (n := 2) (cc3 c136_28) zl_2 ?_
      refine p_callV (cc3 c136_29) (Nat.le_of_ble_eq_true rfl) rfl rfl (Nat.le_of_ble_eq_true rfl) (ml_kd hΦ) (S129 (Nat.le_trans (by decide) hd) hΦ hR ⟨rr.2.2, (by decide), (by decide)⟩) ?_
      refine i_ifB (cc3 c136_32) (fun c => ?_) (fun c => ?_)
      · have h := h.1 c
        refine p_lc (ls' := []) c136_35 rfl rfl ?_
        refine i_push (n := (-2)) (cct c136_35 rfl) zl_m2 ?_
        exact p_ri (cc3 c136_37) trivial h
      · have h := h.2 c
        refine p_ild (cc3 c136_38) rfl ?_
        refine i_if (c' := x3 = 0) (cc3 c136_39) (c_eq0 rr.2.2) (fun c => ?_) (fun c => ?_)
        · have h := h.1 c
          refine p_ald (cc3 c136_42) rfl ?_
          refine pm_getp hΦ (cc3 c136_43) (c := 4) rfl (by decide) ?_
          refine i_push (n := 10) (cc3 c136_46) zl_10 ?_
          refine p_ild (cc3 c136_48) rfl ?_
          obtain ⟨g4, h⟩ := h
          refine (fun _ : Rg (10 * x1) => i_mul (cc3 c136_49) ?_) g4
          refine p_ild (cc3 c136_50) rfl ?_
          obtain ⟨g5, h⟩ := h
          refine (fun _ : Rg ((10 * x1) + x2) => i_add (cc3 c136_51) ?_) g5
          obtain ⟨g6, h⟩ := h
          refine n_aldi hΦ (c := 4) (n := 50) (ni := 50) (cc3 c136_52) (by decide) rfl rfl rfl (by decide) g6 (v := A 4 ((10 * x1) + x2)) rfl ?_
          refine p_goto (cc3 c136_53) ?_
          refine p_lc (ls' := []) c136_81 rfl rfl ?_
          exact p_ri (cct c136_81 rfl) trivial h
        · have h := h.2 c
          refine p_ild (cc3 c136_56) rfl ?_
          refine i_push (n := 1) (cc3 c136_57) zl_1 ?_
          refine i_icmp (c' := x3 = 1) (cc3 c136_58) (iz_inj rr.2.2 (by decide)) (fun c => ?_) (fun c => ?_)
          · have h := h.1 c
            refine p_ald (cc3 c136_61) rfl ?_
            refine pm_getp hΦ (cc3 c136_62) (c := 5) rfl (by decide) ?_
            refine i_push (n := 10) (cc3 c136_65) zl_10 ?_
            refine p_ild (cc3 c136_67) rfl ?_
            obtain ⟨g4, h⟩ := h
            refine (fun _ : Rg (10 * x1) => i_mul (cc3 c136_68) ?_) g4
            refine p_ild (cc3 c136_69) rfl ?_
            obtain ⟨g5, h⟩ := h
            refine (fun _ : Rg ((10 * x1) + x2) => i_add (cc3 c136_70) ?_) g5
            obtain ⟨g6, h⟩ := h
            refine n_aldi hΦ (c := 5) (n := 50) (ni := 50) (cc3 c136_71) (by decide) rfl rfl rfl (by decide) g6 (v := A 5 ((10 * x1) + x2)) rfl ?_
            refine p_goto (cc3 c136_72) ?_
            refine p_lc (ls' := []) c136_81 rfl rfl ?_
            exact p_ri (cct c136_81 rfl) trivial h
          · have h := h.2 c
            refine p_ald (cc3 c136_75) rfl ?_
            refine p_ild (cc3 c136_76) rfl ?_
            refine p_ild (cc3 c136_77) rfl ?_
            obtain ⟨g4, h⟩ := h
            obtain ⟨g5, h⟩ := h
            refine p_callV (cc3 c136_78) (Nat.le_of_ble_eq_true rfl) rfl rfl (Nat.le_of_ble_eq_true rfl) (ml_kd hΦ) (S137 (Nat.le_trans (by decide) hd) hΦ hR ⟨rr.1, rr.2.1⟩ ⟨g2, g4, g5⟩) ?_
            refine p_lc (ls' := []) c136_81 rfl rfl ?_
            exact p_ri (cct c136_81 rfl) trivial h
theorem S136 {d : Nat} (hd : 3 ≤ d) {m : Nat} {Φ : (Nat → Nat → Int32) → xM} (hΦ : MLaw m Φ) {A : Nat → Int → Int} (hR : RG A) {x1 x2 x3 : Int} (rr : Rg x1 ∧ Rg x2 ∧ Rg x3) (hp : (SettsOK A)) : xev xT d 136 [.ref m, .int (iz x1), .int (iz x2), .int (iz x3)] (Φ (mI A)) (some (.int (iz (m_stripe A x1 x2 x3)))) (Φ (mI A)) := by
  refine xev_i (D := 2) hd (Nat.le_of_ble_eq_true rfl) (fun d hd => V136_0 hd hΦ hR rr ?_)

  obtain ⟨h0, h1⟩ := hp
  refine ⟨h0.1, fun h => ⟨?_, rfl⟩, fun h => ?_⟩
  · unfold m_stripe; rw [if_neg (by omega)]
  obtain ⟨s1, s2, s3, s4, -⟩ := h1 x1 (by omega) (by omega)
  repeat' (first | refine And.intro ?_ ?_ | intro _)
  all_goals (first | assumption | rfl | omega | (refine congrArg (fun z => some (Value.int (iz z))) ?_; (unfold m_stripe; (repeat' split) <;> first | rfl | omega)) | skip)
  all_goals (have hk : ∀ k : Int, 0 ≤ k → k ≤ x2 → 0 ≤ A 5 (10 * x1 + k) ∧ A 5 (10 * x1 + k) ≤ 999 := (fun k k1 k2 => by have := (s4 k k1 (by omega)).2; omega); first | exact (hk _ (by assumption) (by assumption)).1 | exact (hk _ (by assumption) (by assumption)).2)
def m_loses (A : Nat → Int → Int) (k p : Int) : Int := ((p + 1) * A 19 k).tdiv (A 15 k) - (p * A 19 k).tdiv (A 15 k)
theorem loses_b {A : Nat → Int → Int} {k p : Int} (h1 : 0 ≤ p ∧ p ≤ 24) (h2 : 0 ≤ A 19 k ∧ A 19 k ≤ 1000) (h3 : 0 < A 15 k) : -25000 ≤ m_loses A k p ∧ m_loses A k p ≤ 25000 := by
  have a1 := mul_b (a := p + 1) (b := A 19 k) (M := 25) (N := 1000) (by omega) (by omega) h2.1 h2.2
  have a2 := mul_b (a := p) (b := A 19 k) (M := 25) (N := 1000) (by omega) (by omega) h2.1 h2.2
  have b1 := tdiv_le a1.1 a1.2 h3
  have b2 := tdiv_le a2.1 a2.2 h3
  unfold m_loses
  omega
theorem V162_0 {d : Nat} (hd : 0 ≤ d) {Q : Option Value → xM → Prop} {m : Nat} {Φ : (Nat → Nat → Int32) → xM} (hΦ : MLaw m Φ) {A : Nat → Int → Int} (hR : RG A) {x1 x2 : Int} (rr : Rg x1 ∧ Rg x2) (h : (Rg (x2 + 1)) ∧ (0 ≤ x1 ∧ x1 < 8) ∧ (Rg ((x2 + 1) * (A 19 x1))) ∧ (0 < (A 15 x1) ∧ (A 15 x1) ≤ 2147483647) ∧ (Rg (x2 * (A 19 x1))) ∧ (Rg ((((x2 + 1) * (A 19 x1)).tdiv (A 15 x1)) - ((x2 * (A 19 x1)).tdiv (A 15 x1)))) ∧ Q (some (.int (iz ((((x2 + 1) * (A 19 x1)).tdiv (A 15 x1)) - ((x2 * (A 19 x1)).tdiv (A 15 x1)))))) (Φ (mI A))) : wpE (xT 162) (xev xT d) Q (0, [(0, .ref m), (1, .int (iz x1)), (2, .int (iz x2))], [], Φ (mI A)) := by
  refine p_ild (cc3 c162_0) rfl ?_
  refine i_push (n := 1) (cc3 c162_1) zl_1 ?_
  obtain ⟨g1, h⟩ := h
  refine (fun _ : Rg (x2 + 1) => i_add (cc3 c162_2) ?_) g1
  refine p_ald (cc3 c162_3) rfl ?_
  refine pm_getp hΦ (cc3 c162_4) (c := 19) rfl (by decide) ?_
  refine p_ild (cc3 c162_7) rfl ?_
  obtain ⟨g2, h⟩ := h
  refine n_aldi hΦ (c := 19) (n := 8) (ni := 8) (cc3 c162_8) (by decide) rfl rfl rfl (by decide) g2 (v := A 19 x1) rfl ?_
  obtain ⟨g3, h⟩ := h
  refine (fun _ : Rg ((x2 + 1) * (A 19 x1)) => i_mul (cc3 c162_9) ?_) g3
  refine p_ald (cc3 c162_10) rfl ?_
  refine pm_getp hΦ (cc3 c162_11) (c := 15) rfl (by decide) ?_
  refine p_ild (cc3 c162_14) rfl ?_
  refine n_aldi hΦ (c := 15) (n := 8) (ni := 8) (cc3 c162_15) (by decide) rfl rfl rfl (by decide) g2 (v := A 15 x1) rfl ?_
  obtain ⟨g4, h⟩ := h
  refine i_div (cc3 c162_16) g3 g4 ?_
  refine p_ild (cc3 c162_17) rfl ?_
  refine p_ald (cc3 c162_18) rfl ?_
  refine pm_getp hΦ (cc3 c162_19) (c := 19) rfl (by decide) ?_
  refine p_ild (cc3 c162_22) rfl ?_
  refine n_aldi hΦ (c := 19) (n := 8) (ni := 8) (cc3 c162_23) (by decide) rfl rfl rfl (by decide) g2 (v := A 19 x1) rfl ?_
  obtain ⟨g5, h⟩ := h
  refine (fun _ : Rg (x2 * (A 19 x1)) => i_mul (cc3 c162_24) ?_) g5
  refine p_ald (cc3 c162_25) rfl ?_
  refine pm_getp hΦ (cc3 c162_26) (c := 15) rfl (by decide) ?_
  refine p_ild (cc3 c162_29) rfl ?_
  refine n_aldi hΦ (c := 15) (n := 8) (ni := 8) (cc3 c162_30) (by decide) rfl rfl rfl (by decide) g2 (v := A 15 x1) rfl ?_
  refine i_div (cc3 c162_31) g5 g4 ?_
  obtain ⟨g6, h⟩ := h
  refine (fun _ : Rg ((((x2 + 1) * (A 19 x1)).tdiv (A 15 x1)) - ((x2 * (A 19 x1)).tdiv (A 15 x1))) => i_sub (cc3 c162_32) ?_) g6
  exact p_ri (cc3 c162_33) trivial h
theorem S162 {d : Nat} (hd : 1 ≤ d) {m : Nat} {Φ : (Nat → Nat → Int32) → xM} (hΦ : MLaw m Φ) {A : Nat → Int → Int} (hR : RG A) {x1 x2 : Int} (rr : Rg x1 ∧ Rg x2) (hp : (0 ≤ x1 ∧ x1 < 8) ∧ (0 ≤ x2 ∧ x2 ≤ 24) ∧ (0 ≤ A 19 x1 ∧ A 19 x1 ≤ 1000) ∧ (0 < A 15 x1)) : xev xT d 162 [.ref m, .int (iz x1), .int (iz x2)] (Φ (mI A)) (some (.int (iz (m_loses A x1 x2)))) (Φ (mI A)) := by
  refine xev_i (D := 0) hd (Nat.le_of_ble_eq_true rfl) (fun d hd => V162_0 hd hΦ hR rr ?_)

  obtain ⟨h0, h1, h2, h3⟩ := hp
  have a1 := mul_b (a := x2 + 1) (b := A 19 x1) (M := 25) (N := 1000) (by omega) (by omega) h2.1 h2.2
  have a2 := mul_b (a := x2) (b := A 19 x1) (M := 25) (N := 1000) (by omega) (by omega) h2.1 h2.2
  have b1 := tdiv_le a1.1 a1.2 h3
  have b2 := tdiv_le a2.1 a2.2 h3
  have r := hR 15 x1
  exact ⟨by omega, by omega, by omega, ⟨h3, r.2⟩, by omega, by omega, rfl, rfl⟩
def m_fixed (A : Nat → Int → Int) (k p : Int) : Int := if A 11 k = 5 then (if p = A 15 k - 2 then A 17 k else 0) else if A 11 k = 1 ∨ A 11 k = 3 then 0 else if A 11 k = 0 then A 17 k else A 17 k + A 0 32
def m_periods (A : Nat → Int → Int) (k p m : Int) : Int := if A 11 k = 4 then 2 * m else if A 11 k = 3 ∨ (A 11 k = 5 ∧ p < A 15 k - 2) then m + m % 2 else m
def m_nextOf (A : Nat → Int → Int) (k p o m : Int) : Int := if A 17 k < m_fixed A k p + m_periods A k p m * A 0 32 then o + m_periods A k p m else 200
/-- the least place from 'from' on that lies 'ahead' ahead of a centre, by a period -/
def lst (P from_ ahead c : Int) : Int := from_ + (c - ahead - from_) % P
theorem V153_0 {d : Nat} (hd : 0 ≤ d) {Q : Option Value → xM → Prop} {m : Nat} {Φ : (Nat → Nat → Int32) → xM} (hΦ : MLaw m Φ) {A : Nat → Int → Int} (hR : RG A) {x1 x2 : Int} (rr : Rg x1 ∧ Rg x2) (h : (0 ≤ x1 ∧ x1 < 8) ∧ ((((A 11 x1) = 5) → (Rg ((A 15 x1) - 2)) ∧ (((x2 = ((A 15 x1) - 2)) → Q (some (.int (iz (A 17 x1)))) (Φ (mI A))) ∧ (¬ (x2 = ((A 15 x1) - 2)) → Q (some (.int (iz 0))) (Φ (mI A))))) ∧ (¬ ((A 11 x1) = 5) → ((((A 11 x1) = 1) → Q (some (.int (iz 0))) (Φ (mI A))) ∧ (¬ ((A 11 x1) = 1) → ((((A 11 x1) = 3) → Q (some (.int (iz 0))) (Φ (mI A))) ∧ (¬ ((A 11 x1) = 3) → ((((A 11 x1) = 0) → Q (some (.int (iz (A 17 x1)))) (Φ (mI A))) ∧ (¬ ((A 11 x1) = 0) → (Rg ((A 17 x1) + (A 0 32))) ∧ Q (some (.int (iz ((A 17 x1) + (A 0 32))))) (Φ (mI A))))))))))) : wpE (xT 153) (xev xT d) Q (0, [(0, .ref m), (1, .int (iz x1)), (2, .int (iz x2))], [], Φ (mI A)) := by
  refine p_ald (cc3 c153_0) rfl ?_
  refine pm_getp hΦ (cc3 c153_1) (c := 11) rfl (by decide) ?_
  refine p_ild (cc3 c153_4) rfl ?_
  obtain ⟨g1, h⟩ := h
  refine n_aldi hΦ (c := 11) (n := 8) (ni := 8) (cc3 c153_5) (by decide) rfl rfl rfl (by decide) g1 (v := A 11 x1) rfl ?_
  refine i_push (n := 5) (cc3 c153_6) zl_5 ?_
  refine i_icmp (c' := (A 11 x1) = 5) (cc3 c153_7) (iz_inj (hR 11 x1) (by decide)) (fun c => ?_) (fun c => ?_)
  · have h := h.1 c
    refine p_ild (cc3 c153_10) rfl ?_
    refine p_ald (cc3 c153_11) rfl ?_
    refine pm_getp hΦ (cc3 c153_12) (c := 15) rfl (by decide) ?_
    refine p_ild (cc3 c153_15) rfl ?_
    refine n_aldi hΦ (c := 15) (n := 8) (ni := 8) (cc3 c153_16) (by decide) rfl rfl rfl (by decide) g1 (v := A 15 x1) rfl ?_
    refine i_push (n := 2) (cc3 c153_17) zl_2 ?_
    obtain ⟨g2, h⟩ := h
    refine (fun _ : Rg ((A 15 x1) - 2) => i_sub (cc3 c153_18) ?_) g2
    refine i_icmp (c' := x2 = ((A 15 x1) - 2)) (cc3 c153_19) (iz_inj rr.2 g2) (fun c => ?_) (fun c => ?_)
    · have h := h.1 c
      refine p_ald (cc3 c153_22) rfl ?_
      refine pm_getp hΦ (cc3 c153_23) (c := 17) rfl (by decide) ?_
      refine p_ild (cc3 c153_26) rfl ?_
      refine n_aldi hΦ (c := 17) (n := 8) (ni := 8) (cc3 c153_27) (by decide) rfl rfl rfl (by decide) g1 (v := A 17 x1) rfl ?_
      refine p_goto (cc3 c153_28) ?_
      refine p_lc (ls' := []) c153_32 rfl rfl ?_
      exact p_ri (cct c153_32 rfl) trivial h
    · have h := h.2 c
      refine i_push (n := 0) (cc3 c153_31) zl_0 ?_
      refine p_lc (ls' := []) c153_32 rfl rfl ?_
      exact p_ri (cct c153_32 rfl) trivial h
  · have h := h.2 c
    refine p_ald (cc3 c153_33) rfl ?_
    refine pm_getp hΦ (cc3 c153_34) (c := 11) rfl (by decide) ?_
    refine p_ild (cc3 c153_37) rfl ?_
    refine n_aldi hΦ (c := 11) (n := 8) (ni := 8) (cc3 c153_38) (by decide) rfl rfl rfl (by decide) g1 (v := A 11 x1) rfl ?_
    refine i_push (n := 1) (cc3 c153_39) zl_1 ?_
    refine i_icmp (c' := (A 11 x1) = 1) (cc3 c153_40) (iz_inj (hR 11 x1) (by decide)) (fun c => ?_) (fun c => ?_)
    · have h := h.1 c
      refine p_lc (ls' := []) c153_53 rfl rfl ?_
      refine i_push (n := 0) (cct c153_53 rfl) zl_0 ?_
      refine p_goto (cc3 c153_54) ?_
      exact p_ri (cct c153_86 rfl) trivial h
    · have h := h.2 c
      refine p_ald (cc3 c153_43) rfl ?_
      refine pm_getp hΦ (cc3 c153_44) (c := 11) rfl (by decide) ?_
      refine p_ild (cc3 c153_47) rfl ?_
      refine n_aldi hΦ (c := 11) (n := 8) (ni := 8) (cc3 c153_48) (by decide) rfl rfl rfl (by decide) g1 (v := A 11 x1) rfl ?_
      refine i_push (n := 3) (cc3 c153_49) zl_3 ?_
      refine i_icmp (c' := (A 11 x1) = 3) (cc3 c153_50) (iz_inj (hR 11 x1) (by decide)) (fun c => ?_) (fun c => ?_)
      · have h := h.1 c
        refine p_lc (ls' := []) c153_53 rfl rfl ?_
        refine i_push (n := 0) (cct c153_53 rfl) zl_0 ?_
        refine p_goto (cc3 c153_54) ?_
        exact p_ri (cct c153_86 rfl) trivial h
      · have h := h.2 c
        refine p_ald (cc3 c153_57) rfl ?_
        refine pm_getp hΦ (cc3 c153_58) (c := 11) rfl (by decide) ?_
        refine p_ild (cc3 c153_61) rfl ?_
        refine n_aldi hΦ (c := 11) (n := 8) (ni := 8) (cc3 c153_62) (by decide) rfl rfl rfl (by decide) g1 (v := A 11 x1) rfl ?_
        refine i_if (c' := (A 11 x1) = 0) (cc3 c153_63) (c_eq0 (hR 11 x1)) (fun c => ?_) (fun c => ?_)
        · have h := h.1 c
          refine p_ald (cc3 c153_66) rfl ?_
          refine pm_getp hΦ (cc3 c153_67) (c := 17) rfl (by decide) ?_
          refine p_ild (cc3 c153_70) rfl ?_
          refine n_aldi hΦ (c := 17) (n := 8) (ni := 8) (cc3 c153_71) (by decide) rfl rfl rfl (by decide) g1 (v := A 17 x1) rfl ?_
          refine p_goto (cc3 c153_72) ?_
          refine p_lc (ls' := []) c153_86 rfl rfl ?_
          exact p_ri (cct c153_86 rfl) trivial h
        · have h := h.2 c
          refine p_ald (cc3 c153_75) rfl ?_
          refine pm_getp hΦ (cc3 c153_76) (c := 17) rfl (by decide) ?_
          refine p_ild (cc3 c153_79) rfl ?_
          refine n_aldi hΦ (c := 17) (n := 8) (ni := 8) (cc3 c153_80) (by decide) rfl rfl rfl (by decide) g1 (v := A 17 x1) rfl ?_
          refine p_ald (cc3 c153_81) rfl ?_
          refine n_geti hΦ (v := A 0 32) (cc3 c153_82) (ji := 32) rfl rfl ?_
          obtain ⟨g2, h⟩ := h
          refine (fun _ : Rg ((A 17 x1) + (A 0 32)) => i_add (cc3 c153_85) ?_) g2
          refine p_lc (ls' := []) c153_86 rfl rfl ?_
          exact p_ri (cct c153_86 rfl) trivial h
theorem S153 {d : Nat} (hd : 1 ≤ d) {m : Nat} {Φ : (Nat → Nat → Int32) → xM} (hΦ : MLaw m Φ) {A : Nat → Int → Int} (hR : RG A) {x1 x2 : Int} (rr : Rg x1 ∧ Rg x2) (hp : (0 ≤ x1 ∧ x1 < 8) ∧ (4 ≤ A 15 x1) ∧ (0 ≤ A 17 x1 ∧ A 17 x1 ≤ 2000) ∧ (0 ≤ A 0 32 ∧ A 0 32 ≤ 400)) : xev xT d 153 [.ref m, .int (iz x1), .int (iz x2)] (Φ (mI A)) (some (.int (iz (m_fixed A x1 x2)))) (Φ (mI A)) := by
  refine xev_i (D := 0) hd (Nat.le_of_ble_eq_true rfl) (fun d hd => V153_0 hd hΦ hR rr ?_)
  have r := hR 15 x1
  repeat' (first | refine And.intro ?_ ?_ | intro _)
  all_goals (first | assumption | rfl | omega | (refine congrArg (fun z => some (Value.int (iz z))) ?_; first | omega | exact (bI_f (by omega)).symm | exact (bI_t (by omega)).symm | exact bI_i (by omega)) | (refine congrArg (fun z => some (Value.int (iz z))) ?_; (try unfold m_fixed); (repeat' split) <;> first | rfl | omega | (exfalso; omega)))
theorem V157_0 {d : Nat} (hd : 0 ≤ d) {Q : Option Value → xM → Prop} {m : Nat} {Φ : (Nat → Nat → Int32) → xM} (hΦ : MLaw m Φ) {A : Nat → Int → Int} (hR : RG A) {x1 x2 x3 : Int} (rr : Rg x1 ∧ Rg x2 ∧ Rg x3) (h : (0 ≤ x1 ∧ x1 < 8) ∧ ((((A 11 x1) = 4) → (Rg (2 * x3)) ∧ Q (some (.int (iz (2 * x3)))) (Φ (mI A))) ∧ (¬ ((A 11 x1) = 4) → ((((A 11 x1) = 3) → (Rg (x3 + (x3.tmod 2))) ∧ Q (some (.int (iz (x3 + (x3.tmod 2))))) (Φ (mI A))) ∧ (¬ ((A 11 x1) = 3) → ((((A 11 x1) = 5) → (Rg ((A 15 x1) - 2)) ∧ (((((A 15 x1) - 2) ≤ x2) → Q (some (.int (iz x3))) (Φ (mI A))) ∧ (¬ (((A 15 x1) - 2) ≤ x2) → (Rg (x3 + (x3.tmod 2))) ∧ Q (some (.int (iz (x3 + (x3.tmod 2))))) (Φ (mI A))))) ∧ (¬ ((A 11 x1) = 5) → Q (some (.int (iz x3))) (Φ (mI A))))))))) : wpE (xT 157) (xev xT d) Q (0, [(0, .ref m), (1, .int (iz x1)), (2, .int (iz x2)), (3, .int (iz x3))], [], Φ (mI A)) := by
  refine p_ald (cc3 c157_0) rfl ?_
  refine pm_getp hΦ (cc3 c157_1) (c := 11) rfl (by decide) ?_
  refine p_ild (cc3 c157_4) rfl ?_
  obtain ⟨g1, h⟩ := h
  refine n_aldi hΦ (c := 11) (n := 8) (ni := 8) (cc3 c157_5) (by decide) rfl rfl rfl (by decide) g1 (v := A 11 x1) rfl ?_
  refine i_push (n := 4) (cc3 c157_6) zl_4 ?_
  refine i_icmp (c' := (A 11 x1) = 4) (cc3 c157_7) (iz_inj (hR 11 x1) (by decide)) (fun c => ?_) (fun c => ?_)
  · have h := h.1 c
    refine i_push (n := 2) (cc3 c157_10) zl_2 ?_
    refine p_ild (cc3 c157_11) rfl ?_
    obtain ⟨g2, h⟩ := h
    refine (fun _ : Rg (2 * x3) => i_mul (cc3 c157_12) ?_) g2
    exact p_ri (cc3 c157_13) trivial h
  · have h := h.2 c
    refine p_ald (cc3 c157_14) rfl ?_
    refine pm_getp hΦ (cc3 c157_15) (c := 11) rfl (by decide) ?_
    refine p_ild (cc3 c157_18) rfl ?_
    refine n_aldi hΦ (c := 11) (n := 8) (ni := 8) (cc3 c157_19) (by decide) rfl rfl rfl (by decide) g1 (v := A 11 x1) rfl ?_
    refine i_push (n := 3) (cc3 c157_20) zl_3 ?_
    refine i_icmp (c' := (A 11 x1) = 3) (cc3 c157_21) (iz_inj (hR 11 x1) (by decide)) (fun c => ?_) (fun c => ?_)
    · have h := h.1 c
      refine p_lc (ls' := [(3, .int (iz x3))]) c157_46 rfl rfl ?_
      refine p_ild (cct c157_46 rfl) rfl ?_
      refine p_ild (cc3 c157_47) rfl ?_
      refine i_push (n := 2) (cc3 c157_48) zl_2 ?_
      refine i_rem (cc3 c157_49) rr.2.2 (by decide) ?_
      obtain ⟨g2, h⟩ := h
      refine (fun _ : Rg (x3 + (x3.tmod 2)) => i_add (cc3 c157_50) ?_) g2
      refine p_goto (cc3 c157_51) ?_
      refine p_lc (ls' := []) c157_55 rfl rfl ?_
      exact p_ri (cct c157_55 rfl) trivial h
    · have h := h.2 c
      refine p_ald (cc3 c157_24) rfl ?_
      refine pm_getp hΦ (cc3 c157_25) (c := 11) rfl (by decide) ?_
      refine p_ild (cc3 c157_28) rfl ?_
      refine n_aldi hΦ (c := 11) (n := 8) (ni := 8) (cc3 c157_29) (by decide) rfl rfl rfl (by decide) g1 (v := A 11 x1) rfl ?_
      refine i_push (n := 5) (cc3 c157_30) zl_5 ?_
      refine i_icmp (c' := (A 11 x1) = 5) (cc3 c157_31) (iz_inj (hR 11 x1) (by decide)) (fun c => ?_) (fun c => ?_)
      · have h := h.1 c
        refine p_ild (cc3 c157_34) rfl ?_
        refine p_ald (cc3 c157_35) rfl ?_
        refine pm_getp hΦ (cc3 c157_36) (c := 15) rfl (by decide) ?_
        refine p_ild (cc3 c157_39) rfl ?_
        refine n_aldi hΦ (c := 15) (n := 8) (ni := 8) (cc3 c157_40) (by decide) rfl rfl rfl (by decide) g1 (v := A 15 x1) rfl ?_
        refine i_push (n := 2) (cc3 c157_41) zl_2 ?_
        obtain ⟨g2, h⟩ := h
        refine (fun _ : Rg ((A 15 x1) - 2) => i_sub (cc3 c157_42) ?_) g2
        refine i_icmp (c' := ((A 15 x1) - 2) ≤ x2) (cc3 c157_43) (iz_le g2 rr.2.1) (fun c => ?_) (fun c => ?_)
        · have h := h.1 c
          refine p_lc (ls' := [(3, .int (iz x3))]) c157_54 rfl rfl ?_
          refine p_ild (cct c157_54 rfl) rfl ?_
          refine p_lc (ls' := []) c157_55 rfl rfl ?_
          exact p_ri (cct c157_55 rfl) trivial h
        · have h := h.2 c
          refine p_lc (ls' := [(3, .int (iz x3))]) c157_46 rfl rfl ?_
          refine p_ild (cct c157_46 rfl) rfl ?_
          refine p_ild (cc3 c157_47) rfl ?_
          refine i_push (n := 2) (cc3 c157_48) zl_2 ?_
          refine i_rem (cc3 c157_49) rr.2.2 (by decide) ?_
          obtain ⟨g3, h⟩ := h
          refine (fun _ : Rg (x3 + (x3.tmod 2)) => i_add (cc3 c157_50) ?_) g3
          refine p_goto (cc3 c157_51) ?_
          refine p_lc (ls' := []) c157_55 rfl rfl ?_
          exact p_ri (cct c157_55 rfl) trivial h
      · have h := h.2 c
        refine p_lc (ls' := [(3, .int (iz x3))]) c157_54 rfl rfl ?_
        refine p_ild (cct c157_54 rfl) rfl ?_
        refine p_lc (ls' := []) c157_55 rfl rfl ?_
        exact p_ri (cct c157_55 rfl) trivial h
theorem S157 {d : Nat} (hd : 1 ≤ d) {m : Nat} {Φ : (Nat → Nat → Int32) → xM} (hΦ : MLaw m Φ) {A : Nat → Int → Int} (hR : RG A) {x1 x2 x3 : Int} (rr : Rg x1 ∧ Rg x2 ∧ Rg x3) (hp : (0 ≤ x1 ∧ x1 < 8) ∧ (4 ≤ A 15 x1) ∧ (1 ≤ x3 ∧ x3 ≤ 4)) : xev xT d 157 [.ref m, .int (iz x1), .int (iz x2), .int (iz x3)] (Φ (mI A)) (some (.int (iz (m_periods A x1 x2 x3)))) (Φ (mI A)) := by
  refine xev_i (D := 0) hd (Nat.le_of_ble_eq_true rfl) (fun d hd => V157_0 hd hΦ hR rr ?_)
  have r := hR 15 x1
  rw [tmod_pos (show 0 ≤ x3 by omega)]
  repeat' (first | refine And.intro ?_ ?_ | intro _)
  all_goals (first | assumption | rfl | omega | (refine congrArg (fun z => some (Value.int (iz z))) ?_; first | omega | exact (bI_f (by omega)).symm | exact (bI_t (by omega)).symm | exact bI_i (by omega)) | (refine congrArg (fun z => some (Value.int (iz z))) ?_; (try unfold m_periods); (repeat' split) <;> first | rfl | omega | (exfalso; omega)))
theorem periods_b {A : Nat → Int → Int} {k p m : Int} (h : 1 ≤ m ∧ m ≤ 4) : 1 ≤ m_periods A k p m ∧ m_periods A k p m ≤ 8 := by
  unfold m_periods
  (repeat' split) <;> omega
theorem fixed_b {A : Nat → Int → Int} {k p : Int} (h : 0 ≤ A 17 k ∧ A 17 k ≤ 2000) (h2 : 0 ≤ A 0 32 ∧ A 0 32 ≤ 400) : 0 ≤ m_fixed A k p ∧ m_fixed A k p ≤ 2400 := by
  unfold m_fixed
  (repeat' split) <;> omega
theorem V156_0 {d : Nat} (hd : 1 ≤ d) {Q : Option Value → xM → Prop} {m : Nat} {Φ : (Nat → Nat → Int32) → xM} (hΦ : MLaw m Φ) {A : Nat → Int → Int} (hR : RG A) {x1 x2 x3 x4 : Int} (rr : Rg x1 ∧ Rg x2 ∧ Rg x3 ∧ Rg x4) (h : (0 ≤ x1 ∧ x1 < 8) ∧ (4 ≤ A 15 x1) ∧ (0 ≤ A 17 x1 ∧ A 17 x1 ≤ 2000) ∧ (0 ≤ A 0 32 ∧ A 0 32 ≤ 400) ∧ (1 ≤ x4 ∧ x4 ≤ 4) ∧ (Rg ((m_periods A x1 x2 x4) * (A 0 32))) ∧ (Rg ((m_fixed A x1 x2) + ((m_periods A x1 x2 x4) * (A 0 32)))) ∧ (((((m_fixed A x1 x2) + ((m_periods A x1 x2 x4) * (A 0 32))) ≤ (A 17 x1)) → Q (some (.int (iz 200))) (Φ (mI A))) ∧ (¬ (((m_fixed A x1 x2) + ((m_periods A x1 x2 x4) * (A 0 32))) ≤ (A 17 x1)) → (Rg (x3 + (m_periods A x1 x2 x4))) ∧ Q (some (.int (iz (x3 + (m_periods A x1 x2 x4))))) (Φ (mI A))))) : wpE (xT 156) (xev xT d) Q (0, [(0, .ref m), (1, .int (iz x1)), (2, .int (iz x2)), (3, .int (iz x3)), (4, .int (iz x4))], [], Φ (mI A)) := by
  refine p_ald (cc3 c156_0) rfl ?_
  refine p_ild (cc3 c156_1) rfl ?_
  refine p_ild (cc3 c156_2) rfl ?_
  obtain ⟨g1, h⟩ := h
  obtain ⟨g2, h⟩ := h
  obtain ⟨g3, h⟩ := h
  obtain ⟨g4, h⟩ := h
  refine p_callV (cc3 c156_3) (Nat.le_of_ble_eq_true rfl) rfl rfl (Nat.le_of_ble_eq_true rfl) (ml_kd hΦ) (S153 (Nat.le_trans (by decide) hd) hΦ hR ⟨rr.1, rr.2.1⟩ ⟨g1, g2, g3, g4⟩) ?_
  refine p_ald (cc3 c156_6) rfl ?_
  refine p_ild (cc3 c156_7) rfl ?_
  refine p_ild (cc3 c156_8) rfl ?_
  refine p_ild (cc3 c156_9) rfl ?_
  obtain ⟨g5, h⟩ := h
  refine p_callV (cc3 c156_11) (Nat.le_of_ble_eq_true rfl) rfl rfl (Nat.le_of_ble_eq_true rfl) (ml_kd hΦ) (S157 (Nat.le_trans (by decide) hd) hΦ hR ⟨rr.1, rr.2.1, rr.2.2.2⟩ ⟨g1, g2, g5⟩) ?_
  refine p_ald (cc3 c156_14) rfl ?_
  refine n_geti hΦ (v := A 0 32) (cc3 c156_15) (ji := 32) rfl rfl ?_
  obtain ⟨g6, h⟩ := h
  refine (fun _ : Rg ((m_periods A x1 x2 x4) * (A 0 32)) => i_mul (cc3 c156_18) ?_) g6
  obtain ⟨g7, h⟩ := h
  refine (fun _ : Rg ((m_fixed A x1 x2) + ((m_periods A x1 x2 x4) * (A 0 32))) => i_add (cc3 c156_19) ?_) g7
  refine p_ald (cc3 c156_20) rfl ?_
  refine pm_getp hΦ (cc3 c156_21) (c := 17) rfl (by decide) ?_
  refine p_ild (cc3 c156_24) rfl ?_
  refine n_aldi hΦ (c := 17) (n := 8) (ni := 8) (cc3 c156_25) (by decide) rfl rfl rfl (by decide) g1 (v := A 17 x1) rfl ?_
  refine i_icmp (c' := ((m_fixed A x1 x2) + ((m_periods A x1 x2 x4) * (A 0 32))) ≤ (A 17 x1)) (cc3 c156_26) (iz_le g7 (hR 17 x1)) (fun c => ?_) (fun c => ?_)
  · have h := h.1 c
    refine i_push (n := 200) (cc3 c156_42) zl_200 ?_
    refine p_lc (ls' := []) c156_45 rfl rfl ?_
    exact p_ri (cct c156_45 rfl) trivial h
  · have h := h.2 c
    refine p_ild (cc3 c156_29) rfl ?_
    refine p_ald (cc3 c156_30) rfl ?_
    refine p_ild (cc3 c156_31) rfl ?_
    refine p_ild (cc3 c156_32) rfl ?_
    refine p_ild (cc3 c156_33) rfl ?_
    refine p_callV (cc3 c156_35) (Nat.le_of_ble_eq_true rfl) rfl rfl (Nat.le_of_ble_eq_true rfl) (ml_kd hΦ) (S157 (Nat.le_trans (by decide) hd) hΦ hR ⟨rr.1, rr.2.1, rr.2.2.2⟩ ⟨g1, g2, g5⟩) ?_
    obtain ⟨g8, h⟩ := h
    refine (fun _ : Rg (x3 + (m_periods A x1 x2 x4)) => i_add (cc3 c156_38) ?_) g8
    refine p_goto (cc3 c156_39) ?_
    refine p_lc (ls' := []) c156_45 rfl rfl ?_
    exact p_ri (cct c156_45 rfl) trivial h
theorem S156 {d : Nat} (hd : 2 ≤ d) {m : Nat} {Φ : (Nat → Nat → Int32) → xM} (hΦ : MLaw m Φ) {A : Nat → Int → Int} (hR : RG A) {x1 x2 x3 x4 : Int} (rr : Rg x1 ∧ Rg x2 ∧ Rg x3 ∧ Rg x4) (hp : (0 ≤ x1 ∧ x1 < 8) ∧ (4 ≤ A 15 x1) ∧ (0 ≤ A 17 x1 ∧ A 17 x1 ≤ 2000) ∧ (0 ≤ A 0 32 ∧ A 0 32 ≤ 400) ∧ (1 ≤ x4 ∧ x4 ≤ 4) ∧ (0 ≤ x3 ∧ x3 ≤ 200)) : xev xT d 156 [.ref m, .int (iz x1), .int (iz x2), .int (iz x3), .int (iz x4)] (Φ (mI A)) (some (.int (iz (m_nextOf A x1 x2 x3 x4)))) (Φ (mI A)) := by
  refine xev_i (D := 1) hd (Nat.le_of_ble_eq_true rfl) (fun d hd => V156_0 hd hΦ hR rr ?_)

  obtain ⟨h0, h1, h2, h3, h4, h5⟩ := hp
  have p1 := periods_b (A := A) (k := x1) (p := x2) h4
  have f1 := fixed_b (A := A) (k := x1) (p := x2) h2 h3
  have a1 := mul_b (a := m_periods A x1 x2 x4) (b := A 0 32) (M := 8) (N := 400) (by omega) (by omega) h3.1 h3.2
  have e : m_nextOf A x1 x2 x3 x4 = if A 17 x1 < m_fixed A x1 x2 + m_periods A x1 x2 x4 * A 0 32 then x3 + m_periods A x1 x2 x4 else 200 := rfl
  rw [e]
  repeat' (first | refine And.intro ?_ ?_ | intro _)
  all_goals (first | assumption | rfl | omega | (refine congrArg (fun z => some (Value.int (iz z))) ?_; split <;> first | rfl | omega))
theorem V152_0 {d : Nat} (hd : 0 ≤ d) {Q : Option Value → xM → Prop} {m : Nat} {Φ : (Nat → Nat → Int32) → xM} (hΦ : MLaw m Φ) {A : Nat → Int → Int} (hR : RG A) {x1 x2 x3 : Int} (rr : Rg x1 ∧ Rg x2 ∧ Rg x3) (h : (Rg (x3 - x2)) ∧ (Rg ((x3 - x2) - x1)) ∧ (0 < (A 0 32) ∧ (A 0 32) ≤ 2147483647) ∧ (((0 ≤ (((x3 - x2) - x1).tmod (A 0 32))) → (Rg (x1 + (((x3 - x2) - x1).tmod (A 0 32)))) ∧ Q (some (.int (iz (x1 + (((x3 - x2) - x1).tmod (A 0 32)))))) (Φ (mI A))) ∧ (¬ (0 ≤ (((x3 - x2) - x1).tmod (A 0 32))) → (Rg ((((x3 - x2) - x1).tmod (A 0 32)) + (A 0 32))) ∧ (Rg (x1 + ((((x3 - x2) - x1).tmod (A 0 32)) + (A 0 32)))) ∧ Q (some (.int (iz (x1 + ((((x3 - x2) - x1).tmod (A 0 32)) + (A 0 32)))))) (Φ (mI A))))) : wpE (xT 152) (xev xT d) Q (0, [(0, .ref m), (1, .int (iz x1)), (2, .int (iz x2)), (3, .int (iz x3))], [], Φ (mI A)) := by
  refine p_ild (cc3 c152_0) rfl ?_
  refine p_ild (cc3 c152_1) rfl ?_
  obtain ⟨g1, h⟩ := h
  refine (fun _ : Rg (x3 - x2) => i_sub (cc3 c152_2) ?_) g1
  refine p_ild (cc3 c152_3) rfl ?_
  obtain ⟨g2, h⟩ := h
  refine (fun _ : Rg ((x3 - x2) - x1) => i_sub (cc3 c152_4) ?_) g2
  refine p_ald (cc3 c152_5) rfl ?_
  refine n_geti hΦ (v := A 0 32) (cc3 c152_6) (ji := 32) rfl rfl ?_
  obtain ⟨g3, h⟩ := h
  refine i_rem (cc3 c152_9) g2 g3 ?_
  refine p_ist (ls' := [(4, .int (iz (((x3 - x2) - x1).tmod (A 0 32)))), (0, .ref m), (1, .int (iz x1)), (2, .int (iz x2)), (3, .int (iz x3))]) (cc3 c152_10) (by decide) rfl ?_
  refine p_ild (cc3 c152_12) rfl ?_
  refine p_ild (cc3 c152_13) rfl ?_
  refine i_if (c' := 0 ≤ (((x3 - x2) - x1).tmod (A 0 32))) (cc3 c152_15) (c_ge0 (rg_tmod g2 g3.1)) (fun c => ?_) (fun c => ?_)
  · have h := h.1 c
    refine p_ild (cc3 c152_28) rfl ?_
    refine p_lc (ls' := []) c152_30 rfl rfl ?_
    obtain ⟨g4, h⟩ := h
    refine (fun _ : Rg (x1 + (((x3 - x2) - x1).tmod (A 0 32))) => i_add (cct c152_30 rfl) ?_) g4
    exact p_ri (cc3 c152_31) trivial h
  · have h := h.2 c
    refine p_ild (cc3 c152_18) rfl ?_
    refine p_ald (cc3 c152_20) rfl ?_
    refine n_geti hΦ (v := A 0 32) (cc3 c152_21) (ji := 32) rfl rfl ?_
    obtain ⟨g4, h⟩ := h
    refine (fun _ : Rg ((((x3 - x2) - x1).tmod (A 0 32)) + (A 0 32)) => i_add (cc3 c152_24) ?_) g4
    refine p_goto (cc3 c152_25) ?_
    refine p_lc (ls' := []) c152_30 rfl rfl ?_
    obtain ⟨g5, h⟩ := h
    refine (fun _ : Rg (x1 + ((((x3 - x2) - x1).tmod (A 0 32)) + (A 0 32))) => i_add (cct c152_30 rfl) ?_) g5
    exact p_ri (cc3 c152_31) trivial h
theorem S152 {d : Nat} (hd : 1 ≤ d) {m : Nat} {Φ : (Nat → Nat → Int32) → xM} (hΦ : MLaw m Φ) {A : Nat → Int → Int} (hR : RG A) {x1 x2 x3 : Int} (rr : Rg x1 ∧ Rg x2 ∧ Rg x3) (hp : (0 < A 0 32 ∧ A 0 32 ≤ 400) ∧ (-100000000 ≤ x1 ∧ x1 ≤ 100000000) ∧ (0 ≤ x2 ∧ x2 ≤ 100000000) ∧ (0 ≤ x3 ∧ x3 ≤ 100000000)) : xev xT d 152 [.ref m, .int (iz x1), .int (iz x2), .int (iz x3)] (Φ (mI A)) (some (.int (iz (lst (A 0 32) x1 x2 x3)))) (Φ (mI A)) := by
  refine xev_i (D := 0) hd (Nat.le_of_ble_eq_true rfl) (fun d hd => V152_0 hd hΦ hR rr ?_)

  have e := tmod_emod (x := x3 - x2 - x1) hp.1.1
  have h2 := Int.emod_nonneg (x3 - x2 - x1) (b := A 0 32) (by omega)
  have h3 := Int.emod_lt_of_pos (x3 - x2 - x1) hp.1.1
  have e2 : lst (A 0 32) x1 x2 x3 = x1 + (x3 - x2 - x1) % A 0 32 := rfl
  rw [e2]
  split at e
  all_goals rename_i hc
  all_goals (repeat' (first | refine And.intro ?_ ?_ | intro _))
  all_goals (first | assumption | rfl | omega | (refine congrArg (fun z => some (Value.int (iz z))) ?_; omega))
theorem V149_0 {d : Nat} (hd : 1 ≤ d) {Q : Option Value → xM → Prop} {m : Nat} {Φ : (Nat → Nat → Int32) → xM} (hΦ : MLaw m Φ) {A : Nat → Int → Int} (hR : RG A) {x1 x2 : Int} (rr : Rg x1 ∧ Rg x2) (h : (0 ≤ x1 ∧ x1 < 8) ∧ ((¬ (A 11 x1 = 1 ∨ A 11 x1 = 3 ∨ A 11 x1 = 5) → Q (some (.int (iz 1))) (Φ (mI A))) ∧ ((A 11 x1 = 1 ∨ A 11 x1 = 3 ∨ A 11 x1 = 5) → (0 ≤ x2 ∧ x2 < 5) ∧ ((((A 2 x2) ≤ (A 16 x1)) → Q (some (.int (iz 0))) (Φ (mI A))) ∧ (¬ ((A 2 x2) ≤ (A 16 x1)) → Q (some (.int (iz 1))) (Φ (mI A))))))) : wpE (xT 149) (xev xT d) Q (0, [(0, .ref m), (1, .int (iz x1)), (2, .int (iz x2))], [], Φ (mI A)) := by
  refine p_ald (cc3 c149_0) rfl ?_
  refine p_ild (cc3 c149_1) rfl ?_
  obtain ⟨g1, h⟩ := h
  refine p_callV (cc3 c149_2) (Nat.le_of_ble_eq_true rfl) rfl rfl (Nat.le_of_ble_eq_true rfl) (ml_kd hΦ) (S150 (Nat.le_trans (by decide) hd) hΦ hR rr.1 g1) ?_
  refine i_ifB (cc3 c149_5) (fun c => ?_) (fun c => ?_)
  · have h := h.1 c
    refine p_lc (ls' := []) c149_23 rfl rfl ?_
    refine i_push (n := 1) (cct c149_23 rfl) zl_1 ?_
    refine p_goto (cc3 c149_24) ?_
    exact i_ri (cct c149_28 rfl) (by decide) h
  · have h := h.2 c
    refine p_ald (cc3 c149_8) rfl ?_
    refine pm_getp hΦ (cc3 c149_9) (c := 16) rfl (by decide) ?_
    refine p_ild (cc3 c149_12) rfl ?_
    refine n_aldi hΦ (c := 16) (n := 8) (ni := 8) (cc3 c149_13) (by decide) rfl rfl rfl (by decide) g1 (v := A 16 x1) rfl ?_
    refine p_ald (cc3 c149_14) rfl ?_
    refine pm_getp hΦ (cc3 c149_15) (c := 2) rfl (by decide) ?_
    refine p_ild (cc3 c149_18) rfl ?_
    obtain ⟨g2, h⟩ := h
    refine n_aldi hΦ (c := 2) (n := 5) (ni := 5) (cc3 c149_19) (by decide) rfl rfl rfl (by decide) g2 (v := A 2 x2) rfl ?_
    refine i_icmp (c' := (A 2 x2) ≤ (A 16 x1)) (cc3 c149_20) (iz_le (hR 2 x2) (hR 16 x1)) (fun c => ?_) (fun c => ?_)
    · have h := h.1 c
      refine i_push (n := 0) (cc3 c149_27) zl_0 ?_
      refine p_lc (ls' := []) c149_28 rfl rfl ?_
      exact i_ri (cct c149_28 rfl) (by decide) h
    · have h := h.2 c
      refine p_lc (ls' := []) c149_23 rfl rfl ?_
      refine i_push (n := 1) (cct c149_23 rfl) zl_1 ?_
      refine p_goto (cc3 c149_24) ?_
      exact i_ri (cct c149_28 rfl) (by decide) h
theorem S149 {d : Nat} (hd : 2 ≤ d) {m : Nat} {Φ : (Nat → Nat → Int32) → xM} (hΦ : MLaw m Φ) {A : Nat → Int → Int} (hR : RG A) {x1 x2 : Int} (rr : Rg x1 ∧ Rg x2) (hp : (0 ≤ x1 ∧ x1 < 8) ∧ (0 ≤ x2 ∧ x2 < 5)) : xev xT d 149 [.ref m, .int (iz x1), .int (iz x2)] (Φ (mI A)) (some (.int (iz (bI (¬ (A 11 x1 = 1 ∨ A 11 x1 = 3 ∨ A 11 x1 = 5) ∨ A 16 x1 < A 2 x2))))) (Φ (mI A)) := by
  refine xev_i (D := 1) hd (Nat.le_of_ble_eq_true rfl) (fun d hd => V149_0 hd hΦ hR rr ?_)
  repeat' (first | refine And.intro ?_ ?_ | intro _)
  all_goals (first | assumption | rfl | omega | (refine congrArg (fun z => some (Value.int (iz z))) ?_; first | omega | exact (bI_f (by omega)).symm | exact (bI_t (by omega)).symm | exact bI_i (by omega)))
def m_behind (A : Nat → Int → Int) (k p : Int) : Int := if p + 1 < A 15 k then A 26 (24 * k + p + 1) else A 22 k
theorem V163_0 {d : Nat} (hd : 0 ≤ d) {Q : Option Value → xM → Prop} {m : Nat} {Φ : (Nat → Nat → Int32) → xM} (hΦ : MLaw m Φ) {A : Nat → Int → Int} (hR : RG A) {x1 x2 : Int} (rr : Rg x1 ∧ Rg x2) (h : (Rg (x2 + 1)) ∧ (0 ≤ x1 ∧ x1 < 8) ∧ ((((A 15 x1) ≤ (x2 + 1)) → Q (some (.int (iz (A 22 x1)))) (Φ (mI A))) ∧ (¬ ((A 15 x1) ≤ (x2 + 1)) → (Rg (24 * x1)) ∧ (Rg ((24 * x1) + x2)) ∧ (Rg (((24 * x1) + x2) + 1)) ∧ (0 ≤ (((24 * x1) + x2) + 1) ∧ (((24 * x1) + x2) + 1) < 192) ∧ Q (some (.int (iz (A 26 (((24 * x1) + x2) + 1))))) (Φ (mI A))))) : wpE (xT 163) (xev xT d) Q (0, [(0, .ref m), (1, .int (iz x1)), (2, .int (iz x2))], [], Φ (mI A)) := by
  refine p_ild (cc3 c163_0) rfl ?_
  refine i_push (n := 1) (cc3 c163_1) zl_1 ?_
  obtain ⟨g1, h⟩ := h
  refine (fun _ : Rg (x2 + 1) => i_add (cc3 c163_2) ?_) g1
  refine p_ald (cc3 c163_3) rfl ?_
  refine pm_getp hΦ (cc3 c163_4) (c := 15) rfl (by decide) ?_
  refine p_ild (cc3 c163_7) rfl ?_
  obtain ⟨g2, h⟩ := h
  refine n_aldi hΦ (c := 15) (n := 8) (ni := 8) (cc3 c163_8) (by decide) rfl rfl rfl (by decide) g2 (v := A 15 x1) rfl ?_
  refine i_icmp (c' := (A 15 x1) ≤ (x2 + 1)) (cc3 c163_9) (iz_le (hR 15 x1) g1) (fun c => ?_) (fun c => ?_)
  · have h := h.1 c
    refine p_ald (cc3 c163_28) rfl ?_
    refine pm_getp hΦ (cc3 c163_29) (c := 22) rfl (by decide) ?_
    refine p_ild (cc3 c163_32) rfl ?_
    refine n_aldi hΦ (c := 22) (n := 8) (ni := 8) (cc3 c163_33) (by decide) rfl rfl rfl (by decide) g2 (v := A 22 x1) rfl ?_
    refine p_lc (ls' := []) c163_34 rfl rfl ?_
    exact p_ri (cct c163_34 rfl) trivial h
  · have h := h.2 c
    refine p_ald (cc3 c163_12) rfl ?_
    refine pm_getp hΦ (cc3 c163_13) (c := 26) rfl (by decide) ?_
    refine i_push (n := 24) (cc3 c163_16) zl_24 ?_
    refine p_ild (cc3 c163_18) rfl ?_
    obtain ⟨g3, h⟩ := h
    refine (fun _ : Rg (24 * x1) => i_mul (cc3 c163_19) ?_) g3
    refine p_ild (cc3 c163_20) rfl ?_
    obtain ⟨g4, h⟩ := h
    refine (fun _ : Rg ((24 * x1) + x2) => i_add (cc3 c163_21) ?_) g4
    refine i_push (n := 1) (cc3 c163_22) zl_1 ?_
    obtain ⟨g5, h⟩ := h
    refine (fun _ : Rg (((24 * x1) + x2) + 1) => i_add (cc3 c163_23) ?_) g5
    obtain ⟨g6, h⟩ := h
    refine n_aldi hΦ (c := 26) (n := 192) (ni := 192) (cc3 c163_24) (by decide) rfl rfl rfl (by decide) g6 (v := A 26 (((24 * x1) + x2) + 1)) rfl ?_
    refine p_goto (cc3 c163_25) ?_
    refine p_lc (ls' := []) c163_34 rfl rfl ?_
    exact p_ri (cct c163_34 rfl) trivial h
theorem S163 {d : Nat} (hd : 1 ≤ d) {m : Nat} {Φ : (Nat → Nat → Int32) → xM} (hΦ : MLaw m Φ) {A : Nat → Int → Int} (hR : RG A) {x1 x2 : Int} (rr : Rg x1 ∧ Rg x2) (hp : (0 ≤ x1 ∧ x1 < 8) ∧ (0 ≤ x2 ∧ x2 < 24) ∧ (A 15 x1 ≤ 24)) : xev xT d 163 [.ref m, .int (iz x1), .int (iz x2)] (Φ (mI A)) (some (.int (iz (m_behind A x1 x2)))) (Φ (mI A)) := by
  refine xev_i (D := 0) hd (Nat.le_of_ble_eq_true rfl) (fun d hd => V163_0 hd hΦ hR rr ?_)
  repeat' (first | refine And.intro ?_ ?_ | intro _)
  all_goals (first | assumption | rfl | omega | (refine congrArg (fun z => some (Value.int (iz z))) ?_; first | omega | exact (bI_f (by omega)).symm | exact (bI_t (by omega)).symm | exact bI_i (by omega)) | (refine congrArg (fun z => some (Value.int (iz z))) ?_; (try unfold m_behind); (repeat' split) <;> first | rfl | omega | (exfalso; omega)))
theorem V165_0 {d : Nat} (hd : 0 ≤ d) {Q : Option Value → xM → Prop} {m : Nat} {Φ : (Nat → Nat → Int32) → xM} (hΦ : MLaw m Φ) {A : Nat → Int → Int} (hR : RG A) {x1 x2 : Int} (rr : Rg x1 ∧ Rg x2) (h : (0 ≤ x1 ∧ x1 < 8) ∧ (Rg ((A 15 x1) * (A 25 x1))) ∧ (((x2 = 0) → (Rg (((A 15 x1) * (A 25 x1)) - 0)) ∧ Q (some (.int (iz (((A 15 x1) * (A 25 x1)) - 0)))) (Φ (mI A))) ∧ (¬ (x2 = 0) → (Rg (((A 15 x1) * (A 25 x1)) - (A 19 x1))) ∧ Q (some (.int (iz (((A 15 x1) * (A 25 x1)) - (A 19 x1))))) (Φ (mI A))))) : wpE (xT 165) (xev xT d) Q (0, [(0, .ref m), (1, .int (iz x1)), (2, .int (iz x2))], [], Φ (mI A)) := by
  refine p_ald (cc3 c165_0) rfl ?_
  refine pm_getp hΦ (cc3 c165_1) (c := 15) rfl (by decide) ?_
  refine p_ild (cc3 c165_4) rfl ?_
  obtain ⟨g1, h⟩ := h
  refine n_aldi hΦ (c := 15) (n := 8) (ni := 8) (cc3 c165_5) (by decide) rfl rfl rfl (by decide) g1 (v := A 15 x1) rfl ?_
  refine p_ald (cc3 c165_6) rfl ?_
  refine pm_getp hΦ (cc3 c165_7) (c := 25) rfl (by decide) ?_
  refine p_ild (cc3 c165_10) rfl ?_
  refine n_aldi hΦ (c := 25) (n := 8) (ni := 8) (cc3 c165_11) (by decide) rfl rfl rfl (by decide) g1 (v := A 25 x1) rfl ?_
  obtain ⟨g2, h⟩ := h
  refine (fun _ : Rg ((A 15 x1) * (A 25 x1)) => i_mul (cc3 c165_12) ?_) g2
  refine p_ild (cc3 c165_13) rfl ?_
  refine i_if (c' := x2 = 0) (cc3 c165_14) (c_eq0 rr.2) (fun c => ?_) (fun c => ?_)
  · have h := h.1 c
    refine i_push (n := 0) (cc3 c165_26) zl_0 ?_
    refine p_lc (ls' := []) c165_27 rfl rfl ?_
    obtain ⟨g3, h⟩ := h
    refine (fun _ : Rg (((A 15 x1) * (A 25 x1)) - 0) => i_sub (cct c165_27 rfl) ?_) g3
    exact p_ri (cc3 c165_28) trivial h
  · have h := h.2 c
    refine p_ald (cc3 c165_17) rfl ?_
    refine pm_getp hΦ (cc3 c165_18) (c := 19) rfl (by decide) ?_
    refine p_ild (cc3 c165_21) rfl ?_
    refine n_aldi hΦ (c := 19) (n := 8) (ni := 8) (cc3 c165_22) (by decide) rfl rfl rfl (by decide) g1 (v := A 19 x1) rfl ?_
    refine p_goto (cc3 c165_23) ?_
    refine p_lc (ls' := []) c165_27 rfl rfl ?_
    obtain ⟨g3, h⟩ := h
    refine (fun _ : Rg (((A 15 x1) * (A 25 x1)) - (A 19 x1)) => i_sub (cct c165_27 rfl) ?_) g3
    exact p_ri (cc3 c165_28) trivial h
theorem S165 {d : Nat} (hd : 1 ≤ d) {m : Nat} {Φ : (Nat → Nat → Int32) → xM} (hΦ : MLaw m Φ) {A : Nat → Int → Int} (hR : RG A) {x1 x2 : Int} (rr : Rg x1 ∧ Rg x2) (hp : (0 ≤ x1 ∧ x1 < 8) ∧ (0 ≤ A 15 x1 ∧ A 15 x1 ≤ 24) ∧ (0 ≤ A 25 x1 ∧ A 25 x1 ≤ 10000) ∧ (0 ≤ A 19 x1 ∧ A 19 x1 ≤ 1000)) : xev xT d 165 [.ref m, .int (iz x1), .int (iz x2)] (Φ (mI A)) (some (.int (iz (A 15 x1 * A 25 x1 - (if x2 = 0 then 0 else A 19 x1))))) (Φ (mI A)) := by
  refine xev_i (D := 0) hd (Nat.le_of_ble_eq_true rfl) (fun d hd => V165_0 hd hΦ hR rr ?_)

  obtain ⟨h0, h1, h2, h3⟩ := hp
  have a1 := mul_b (a := A 15 x1) (b := A 25 x1) (M := 24) (N := 10000) h1.1 h1.2 h2.1 h2.2
  repeat' (first | refine And.intro ?_ ?_ | intro _)
  all_goals (first | assumption | rfl | omega | (refine congrArg (fun z => some (Value.int (iz z))) ?_; split <;> first | rfl | omega))
def KiltOK (A : Nat → Int → Int) (k : Int) : Prop := (0 ≤ A 11 k ∧ A 11 k ≤ 5) ∧ (4 ≤ A 12 k ∧ A 12 k ≤ 40) ∧ (20 ≤ A 13 k ∧ A 13 k ≤ 60) ∧ (20 ≤ A 14 k ∧ A 14 k ≤ A 13 k) ∧ (4 ≤ A 15 k ∧ A 15 k ≤ 24) ∧ (0 ≤ A 16 k ∧ A 16 k ≤ 9) ∧ A 17 k = (A 13 k * A 12 k) / (2 * A 15 k) ∧ A 18 k = A 13 k * A 12 k - A 15 k * A 17 k ∧ A 19 k = ((A 13 k - A 14 k) * A 12 k) / 2 ∧ A 19 k ≤ A 15 k * (A 17 k - 1) ∧ -1 ≤ A 20 k
/-- a kilt that is laid -/
def LaidOK (A : Nat → Int → Int) (k : Int) : Prop := 0 ≤ A 20 k → A 20 k < A 0 8 ∧ (1 ≤ A 25 k ∧ A 25 k ≤ 2000) ∧ (0 ≤ A 21 k ∧ A 21 k ≤ 9999) ∧ (0 ≤ A 22 k ∧ A 22 k ≤ 9999) ∧ A 22 k + A 18 k ≤ 9999 ∧ (0 ≤ A 23 k ∧ A 23 k ≤ 3) ∧ (A 28 k = 0 ∨ A 28 k = 1) ∧ ∀ p : Int, 0 ≤ p → p < A 15 k → (0 ≤ A 26 (24 * k + p) ∧ A 26 (24 * k + p) ≤ 9999) ∧ m_loses A k p < A 25 k
theorem KiltOK.b {A : Nat → Int → Int} {k : Int} (h : KiltOK A k) : (1 ≤ A 17 k ∧ A 17 k ≤ 300) ∧ (0 ≤ A 18 k ∧ A 18 k ≤ 2400) ∧ (0 ≤ A 19 k ∧ A 19 k ≤ 800) := by
  obtain ⟨-, h2, h3, h4, h5, -, h7, h8, h9, -, -⟩ := h
  have a0 : 80 ≤ A 13 k * A 12 k := by
    have := Int.mul_le_mul (a := 20) (b := 4) (c := A 13 k) (d := A 12 k) (by omega) (by omega) (by omega) (by omega); omega
  have a1 := mul_b (a := A 13 k) (b := A 12 k) (M := 60) (N := 40) (by omega) (by omega) (by omega) (by omega)
  have a2 := mul_b (a := A 13 k - A 14 k) (b := A 12 k) (M := 40) (N := 40) (by omega) (by omega) (by omega) (by omega)
  have e : A 17 k * (2 * A 15 k) ≤ A 13 k * A 12 k := by rw [h7]; exact Int.ediv_mul_le _ (by omega)
  have e2 : A 17 k * (2 * A 15 k) = 2 * (A 15 k * A 17 k) := by rw [Int.mul_comm, Int.mul_assoc]
  have h1 : 1 ≤ A 17 k := by rw [h7, Int.le_ediv_iff_mul_le (by omega)]; omega
  have e3 : A 15 k * A 17 k ≥ 4 * A 17 k := Int.mul_le_mul_of_nonneg_right (by omega) (by omega)
  have e4 : 0 ≤ A 15 k * A 17 k := by omega
  refine ⟨⟨h1, by omega⟩, ⟨by omega, by omega⟩, ⟨by omega, by omega⟩⟩
