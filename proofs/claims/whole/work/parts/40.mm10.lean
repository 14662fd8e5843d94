def LdRows : List Nat := [20, 21, 22, 23, 24, 25, 26, 27, 28, 29, 30, 31, 32]
/-- what lay leaves: A' is A with kilt k laid on bolt b, with the search's scratch -/
def LaidTo (A A' : Nat → Int → Int) (k b : Int) : Prop := Fr [20, 21, 22, 23, 24, 25, 26, 27, 28, 29, 30, 31, 32] [32, 36, 39, 40, 41] A A' ∧
  (∀ c ∈ [20, 21, 22, 23, 24, 25, 28], ∀ i : Int, ¬ i = k → A' c i = A c i) ∧ (∀ c ∈ [26, 27], ∀ i : Int, i < 24 * k ∨ 24 * k + A 15 k ≤ i → A' c i = A c i) ∧
  A' 20 k = b ∧ A' 21 k = lyS A k (A 7 b) (lyB A k b (A 7 b) 4).2 ∧ A' 22 k = (lyB A k b (A 7 b) 4).1 - A 18 k ∧ A' 23 k = (lyB A k b (A 7 b) 4).2 ∧ A' 25 k = A 17 k ∧ A' 28 k = 0 ∧
  (∀ p : Nat, (p : Int) < A 15 k → A' 26 (24 * k + p) = yxs A k b (A 7 b) (lyX A k (A 7 b) (lyB A k b (A 7 b) 4).2) p ∧ A' 27 (24 * k + p) = if (p : Int) = A 15 k - 1 then -1 else ypk A k b (A 7 b) p (yxs A k b (A 7 b) (lyX A k (A 7 b) (lyB A k b (A 7 b) 4).2) p)) ∧
  A' 24 k = ((lyB A k b (A 7 b) 4).1 - A 18 k - lst (A 3 (A 7 b)) (yxs A k b (A 7 b) (lyX A k (A 7 b) (lyB A k b (A 7 b) 4).2) (A 15 k - 1).toNat + A 17 k) ((A 18 k).tdiv 2) (m_centre A (A 7 b) 0)).tdiv (A 3 (A 7 b))
abbrev m_hasS (A : Nat → Int → Int) (k s : Int) : Prop := ¬ strd A k ∨ A 16 k < A 2 s
/-- USED is within the bolt, when it is found -/
theorem gE_ok {f P size ap : Int} {fl : Int → Int → Bool} : ∀ (r : Nat) (i : Int), gE f P size ap fl r i < 1000000 → gE f P size ap fl r i ≤ size ∧ ∃ j : Int, i ≤ j ∧ j < i + r ∧ gE f P size ap fl r i = f + j * P + ap ∧ ¬ fl (f + j * P) ap = true ∧ ∀ q : Int, i ≤ q → q < j → fl (f + q * P) ap = true
  | 0, i, h => absurd h (by simp [gE])
  | r + 1, i, h => by
    unfold gE at h ⊢
    split at h
    · omega
    · rename_i c1
      rw [if_neg c1]
      split at h
      · rename_i c2
        rw [if_pos c2]
        obtain ⟨h1, j, h2, h3, h4, h5, h6⟩ := gE_ok r (i + 1) h
        refine ⟨h1, j, by omega, by omega, h4, h5, fun q q1 q2 => ?_⟩
        by_cases e : q = i
        · rw [e]; exact c2
        · exact h6 q (by omega) q2
      · rename_i c2
        rw [if_neg c2]
        exact ⟨by omega, i, Int.le_refl i, by omega, rfl, c2, fun q q1 q2 => by omega⟩
theorem yG_ok {A : Nat → Int → Int} {k b s : Int} : ∀ (q : Nat) (x : Int), yG A k b s q x < 1000000 → x + A 17 k ≤ A 8 b ∧ yG A k b s q x ≤ A 8 b ∧ ¬ m_isF A b x (A 17 k) = true
  | 0, x, h => by
    rw [yG_0] at h ⊢
    split at h
    · omega
    · rename_i c1; rw [if_neg c1]
      split at h
      · omega
      · rename_i c2; rw [if_neg c2]
        exact ⟨by omega, (gE_ok 4 0 h).1, c2⟩
  | q + 1, x, h => by
    have e : yG A k b s (q + 1) x = if A 8 b < x + A 17 k then 1000000 else if m_isF A b x (A 17 k) = true then 1000000 else gM (fun m => if A 17 k < yst A k (A 3 s) (A 15 k - 2 - (q : Int)) m then yG A k b s q (x + yst A k (A 3 s) (A 15 k - 2 - (q : Int)) m) else 1000000) 4 := rfl
    rw [e] at h ⊢
    split at h
    · omega
    · rename_i c1; rw [if_neg c1]
      split at h
      · omega
      · rename_i c2; rw [if_neg c2]
        obtain ⟨i, i1, i2, i3⟩ := gM_ex 4 h
        refine ⟨by omega, ?_, c2⟩
        rw [← i3] at h ⊢
        have h' : (if A 17 k < yst A k (A 3 s) (A 15 k - 2 - (q : Int)) i then yG A k b s q (x + yst A k (A 3 s) (A 15 k - 2 - (q : Int)) i) else 1000000) < 1000000 := h
        show (if A 17 k < yst A k (A 3 s) (A 15 k - 2 - (q : Int)) i then yG A k b s q (x + yst A k (A 3 s) (A 15 k - 2 - (q : Int)) i) else 1000000) ≤ A 8 b
        split at h'
        · rename_i c3; rw [if_pos c3]; exact (yG_ok q _ h').2.1
        · omega
theorem yG_end {A : Nat → Int → Int} {k b s x : Int} (h : yG A k b s 0 x < 1000000) : ∃ j : Int, 0 ≤ j ∧ j < 4 ∧ yG A k b s 0 x = lst (A 3 s) (x + A 17 k) ((A 18 k).tdiv 2) (m_centre A s 0) + j * A 3 s + A 18 k ∧ ¬ m_isF A b (lst (A 3 s) (x + A 17 k) ((A 18 k).tdiv 2) (m_centre A s 0) + j * A 3 s) (A 18 k) = true ∧ ∀ q : Int, 0 ≤ q → q < j → m_isF A b (lst (A 3 s) (x + A 17 k) ((A 18 k).tdiv 2) (m_centre A s 0) + q * A 3 s) (A 18 k) = true := by
  rw [yG_0] at h ⊢
  split at h
  · omega
  · rename_i c1; rw [if_neg c1]
    split at h
    · omega
    · rename_i c2; rw [if_neg c2]
      obtain ⟨-, j, h1, h2, h3, h4, h5⟩ := gE_ok 4 0 h
      exact ⟨j, h1, by omega, h3, h4, h5⟩
theorem lyB_ok {A : Nat → Int → Int} {k b s : Int} : ∀ j : Nat, (lyB A k b s j).1 < 1000000 → ∃ i : Nat, i < j ∧ (lyB A k b s j).2 = i ∧ (lyB A k b s j).1 = lyG A k b s i ∧ (∀ q : Nat, q < i → lyG A k b s i < lyG A k b s q) ∧ ∀ q : Nat, q < j → lyG A k b s i ≤ lyG A k b s q
  | 0, h => absurd h (by simp [lyB])
  | j + 1, h => by
    have e : lyB A k b s (j + 1) = if lyG A k b s j < (lyB A k b s j).1 then (lyG A k b s j, (j : Int)) else lyB A k b s j := rfl
    rw [e] at h ⊢
    have all : ∀ j : Nat, ∀ q : Nat, q < j → (lyB A k b s j).1 ≤ lyG A k b s q := by
      intro j
      induction j with
      | zero => intro q hq; omega
      | succ j ih =>
        intro q hq
        unfold lyB
        by_cases c : lyG A k b s j < (lyB A k b s j).1
        · rw [if_pos c]
          by_cases e : q = j
          · subst e; exact Int.le_refl _
          · have := ih q (by omega)
            show lyG A k b s j ≤ _
            omega
        · rw [if_neg c]
          by_cases e : q = j
          · subst e; omega
          · exact ih q (by omega)
    by_cases c : lyG A k b s j < (lyB A k b s j).1
    · rw [if_pos c]
      refine ⟨j, by omega, rfl, rfl, fun q hq => ?_, fun q hq => ?_⟩
      · have := all j q hq; omega
      · by_cases e : q = j
        · subst e; exact Int.le_refl _
        · have := all j q (by omega); omega
    · rw [if_neg c] at h ⊢
      obtain ⟨i, i1, i2, i3, i4, i5⟩ := lyB_ok j h
      refine ⟨i, by omega, i2, i3, i4, fun q hq => ?_⟩
      by_cases e : q = j
      · subst e; omega
      · exact i5 q (by omega)
theorem FindC.of {A : Nat → Int → Int} {k b s : Int} (hs : SettOK A s) (hs2 : 0 ≤ s ∧ s < 5) (hk : KiltOK A k) (hk2 : 0 ≤ k ∧ k < 8) (hb : 0 ≤ b ∧ b < 5) (h9 : 0 ≤ A 9 b ∧ A 9 b ≤ 10) (h8 : 100 ≤ A 8 b ∧ A 8 b ≤ 9999) (hst : m_hasS A k s) : FindC A k b s := by
  have kb := hk.b
  obtain ⟨k1, k2, k3, k4, k5, k6, -⟩ := hk
  obtain ⟨s1, s2, s3, s4, -⟩ := hs
  have h0 := (s4 0 (by omega) (by omega)).2
  rw [Int.add_zero] at h0
  refine ⟨⟨hk2, hb, hs2, rfl, s2, h9, h8, k5, kb.1, ⟨kb.2.1.1, kb.2.1.2⟩, h0⟩, fun c => ⟨by omega, fun q q1 q2 => ?_⟩⟩
  rcases hst with h | h
  · exact absurd c h
  · exact (s4 q q1 (by omega)).2
/-- what a laying that is found is like -/
theorem ly_end {A : Nat → Int → Int} {k b s : Int} (hF : FindC A k b s) (h : (lyB A k b s 4).1 < 1000000) : ∃ i : Nat, i < 4 ∧ (lyB A k b s 4).2 = i ∧ (lyB A k b s 4).1 = yG A k b s (A 15 k - 1).toNat (lyX A k s i) ∧ ¬ m_isF A b (lyS A k s i) (A 18 k) = true ∧ (∀ p : Nat, (p : Int) < A 15 k → 0 ≤ yxs A k b s (lyX A k s i) p ∧ yxs A k b s (lyX A k s i) p + A 17 k ≤ A 8 b) ∧
    ∃ q : Int, 0 ≤ q ∧ q < 4 ∧ (lyB A k b s 4).1 = lst (A 3 s) (yxs A k b s (lyX A k s i) (A 15 k - 1).toNat + A 17 k) ((A 18 k).tdiv 2) (m_centre A s 0) + q * A 3 s + A 18 k ∧ (lyB A k b s 4).1 ≤ A 8 b := by
  have hF' := hF
  obtain ⟨⟨a1, a2, a3, a4, a5, a6, a7, a8, a9, a10, a11⟩, -⟩ := hF'
  have a8' : 4 ≤ A 15 k ∧ A 15 k ≤ 24 := a8
  have a9' : 1 ≤ A 17 k ∧ A 17 k ≤ 300 := a9
  obtain ⟨i, i1, i2, i3, i4, i5⟩ := lyB_ok 4 h
  have hnf : ¬ m_isF A b (lyS A k s i) (A 18 k) = true := fun c => by
    have : lyG A k b s i = 1000000 := by unfold lyG; rw [if_pos c]
    omega
  have hG : lyG A k b s i = yG A k b s (A 15 k - 1).toNat (lyX A k s i) := by unfold lyG; rw [if_neg hnf]
  have hGlt : yG A k b s (A 15 k - 1).toNat (lyX A k s i) < 1000000 := by omega
  have hxs : ∀ p : Nat, (p : Int) < A 15 k → 0 ≤ yxs A k b s (lyX A k s i) p ∧ yxs A k b s (lyX A k s i) p + A 17 k ≤ A 8 b := fun p hp => by
    refine ⟨?_, (yG_ok _ _ (by rw [yxs_ok hGlt p (by omega)]; exact hGlt)).1⟩
    induction p with
    | zero => exact (lyS_b hF (by omega)).2.1.1
    | succ p ih =>
      have ih' := ih (by omega)
      have hn := ypk_next (A := A) (k := k) (b := b) (s := s) (p := p) (x := yxs A k b s (lyX A k s i) p) (by omega) (by rw [yxs_ok hGlt p (by omega)]; exact hGlt)
      show 0 ≤ yxs A k b s (lyX A k s i) p + yst A k (A 3 s) p (ypk A k b s p (yxs A k b s (lyX A k s i) p))
      omega
  have h1 := yxs_ok hGlt (A 15 k - 1).toNat (by omega)
  rw [show (A 15 k - 1 - ((A 15 k - 1).toNat : Int)).toNat = 0 by omega] at h1
  obtain ⟨q, q1, q2, q3, -⟩ := yG_end (by rw [h1]; exact hGlt)
  refine ⟨i, i1, i2, by rw [i3, hG], hnf, hxs, q, q1, q2, by rw [i3, hG, ← h1]; exact q3, ?_⟩
  rw [i3, hG]
  exact (yG_ok _ _ hGlt).2.1
theorem ly_ub {A : Nat → Int → Int} {k b s : Int} (hF : FindC A k b s) (h : (lyB A k b s 4).1 < 1000000) : A 18 k ≤ (lyB A k b s 4).1 ∧ (lyB A k b s 4).1 ≤ A 8 b ∧ A 8 b ≤ 9999 := by
  obtain ⟨i, i1, i2, i3, i4, i5, q, q1, q2, q3, q4⟩ := ly_end hF h
  obtain ⟨⟨a1, a2, a3, a4, a5, a6, a7, a8, a9, a10, a11⟩, -⟩ := hF
  have a5' : 1 ≤ A 3 s ∧ A 3 s ≤ 400 := a5
  have a8' : 4 ≤ A 15 k ∧ A 15 k ≤ 24 := a8
  have a9' : 1 ≤ A 17 k ∧ A 17 k ≤ 300 := a9
  have hx := i5 (A 15 k - 1).toNat (by omega)
  have b3 := lst_b (P := A 3 s) (f := yxs A k b s (lyX A k s i) (A 15 k - 1).toNat + A 17 k) (a := (A 18 k).tdiv 2) (c := m_centre A s 0) a5'
  have b4 := mul_b (a := q) (b := A 3 s) (M := 4) (N := 400) (by omega) (by omega) (by omega) (by omega)
  refine ⟨by omega, q4, a7.2⟩
theorem V148_0 {d : Nat} (hd : 4 ≤ d) {Q : Option Value → xM → Prop} {m : Nat} {Φ : (Nat → Nat → Int32) → xM} (hΦ : MLaw m Φ) {A : Nat → Int → Int} (hR : RG A) {x1 x2 : Int} (rr : Rg x1 ∧ Rg x2) (h : (0 ≤ A 0 13) ∧ ((¬ (0 ≤ x1 ∧ x1 ≤ A 0 13 - 1) → Q (some (.int (iz (-2)))) (Φ (mI A))) ∧ ((0 ≤ x1 ∧ x1 ≤ A 0 13 - 1) → (0 ≤ A 0 8) ∧ ((¬ (0 ≤ x2 ∧ x2 ≤ A 0 8 - 1) → Q (some (.int (iz (-2)))) (Φ (mI A))) ∧ ((0 ≤ x2 ∧ x2 ≤ A 0 8 - 1) → (0 ≤ x2 ∧ x2 < 5) ∧ (0 ≤ x1 ∧ x1 < 8) ∧ (0 ≤ (A 7 x2) ∧ (A 7 x2) < 5) ∧ ((¬ (¬ (A 11 x1 = 1 ∨ A 11 x1 = 3 ∨ A 11 x1 = 5) ∨ A 16 x1 < A 2 (A 7 x2)) → Q (some (.int (iz (-2)))) (Φ (mI A))) ∧ ((¬ (A 11 x1 = 1 ∨ A 11 x1 = 3 ∨ A 11 x1 = 5) ∨ A 16 x1 < A 2 (A 7 x2)) → (FindC A x1 x2 (A 7 x2)) ∧ (∀ (r_1 : Int) (A_1 : Nat → Int → Int), Rg r_1 → RG A_1 → (Fr [29, 30, 31, 32] [32, 36, 39, 40, 41] A A_1 ∧ r_1 = (lyB A x1 x2 (A 7 x2) 4).1 ∧ A_1 0 32 = A 3 (A 7 x2) ∧ A_1 0 41 = r_1 ∧ (r_1 < 1000000 → FoundC A A_1 x1 x2 (A 7 x2) (lyB A x1 x2 (A 7 x2) 4).2)) → (((r_1 = 1000000) → Q (some (.int (iz (-1)))) (Φ (mI A_1))) ∧ (¬ (r_1 = 1000000) → (Rg ((A_1 0 41) - (A_1 18 x1))) ∧ wpE (xT 148) (xev xT d) Q (117, [(0, .ref m), (1, .int (iz x1)), (2, .int (iz x2)), (3, .int (iz 0))], [], Φ (mI (UA (UA (UA (UA (UA (UA A_1 20 x1 x2) 21 x1 (A_1 0 40)) 22 x1 ((A_1 0 41) - (A_1 18 x1))) 23 x1 (A_1 0 39)) 25 x1 (A_1 17 x1)) 28 x1 0))))))))))))) : wpE (xT 148) (xev xT d) Q (0, [(0, .ref m), (1, .int (iz x1)), (2, .int (iz x2))], [], Φ (mI A)) := by
  refine p_ald (cc3 c148_0) rfl ?_
  refine p_ild (cc3 c148_1) rfl ?_
  obtain ⟨g1, h⟩ := h
  refine p_callV (cc3 c148_2) (Nat.le_of_ble_eq_true rfl) rfl rfl (Nat.le_of_ble_eq_true rfl) (ml_kd hΦ) (S147 (Nat.le_trans (by decide) hd) hΦ hR rr.1 g1) ?_
  refine i_ifB (cc3 c148_5) (fun c => ?_) (fun c => ?_)
  · have h := h.1 c
    refine p_lc (ls' := []) c148_30 rfl rfl ?_
    refine i_push (n := (-2)) (cct c148_30 rfl) zl_m2 ?_
    exact p_ri (cc3 c148_32) trivial h
  · have h := h.2 c
    refine p_ald (cc3 c148_8) rfl ?_
    refine p_ild (cc3 c148_9) rfl ?_
    obtain ⟨g2, h⟩ := h
    refine p_callV (cc3 c148_10) (Nat.le_of_ble_eq_true rfl) rfl rfl (Nat.le_of_ble_eq_true rfl) (ml_kd hΦ) (S143 (Nat.le_trans (by decide) hd) hΦ hR rr.2 g2) ?_
    refine i_ifB (cc3 c148_13) (fun c => ?_) (fun c => ?_)
    · have h := h.1 c
      refine p_lc (ls' := []) c148_30 rfl rfl ?_
      refine i_push (n := (-2)) (cct c148_30 rfl) zl_m2 ?_
      exact p_ri (cc3 c148_32) trivial h
    · have h := h.2 c
      refine p_ald (cc3 c148_16) rfl ?_
      refine p_ild (cc3 c148_17) rfl ?_
      refine p_ald (cc3 c148_18) rfl ?_
      refine pm_getp hΦ (cc3 c148_19) (c := 7) rfl (by decide) ?_
      refine p_ild (cc3 c148_22) rfl ?_
      obtain ⟨g3, h⟩ := h
      refine n_aldi hΦ (c := 7) (n := 5) (ni := 5) (cc3 c148_23) (by decide) rfl rfl rfl (by decide) g3 (v := A 7 x2) rfl ?_
      obtain ⟨g4, h⟩ := h
      obtain ⟨g5, h⟩ := h
      refine p_callV (cc3 c148_24) (Nat.le_of_ble_eq_true rfl) rfl rfl (Nat.le_of_ble_eq_true rfl) (ml_kd hΦ) (S149 (Nat.le_trans (by decide) hd) hΦ hR ⟨rr.1, (hR 7 x2)⟩ ⟨g4, g5⟩) ?_
      refine i_ifB (cc3 c148_27) (fun c => ?_) (fun c => ?_)
      · have h := h.1 c
        refine p_lc (ls' := []) c148_30 rfl rfl ?_
        refine i_push (n := (-2)) (cct c148_30 rfl) zl_m2 ?_
        exact p_ri (cc3 c148_32) trivial h
      · have h := h.2 c
        refine p_ald (cc3 c148_33) rfl ?_
        refine p_ild (cc3 c148_34) rfl ?_
        refine p_ild (cc3 c148_35) rfl ?_
        refine p_ald (cc3 c148_36) rfl ?_
        refine pm_getp hΦ (cc3 c148_37) (c := 7) rfl (by decide) ?_
        refine p_ild (cc3 c148_40) rfl ?_
        refine n_aldi hΦ (c := 7) (n := 5) (ni := 5) (cc3 c148_41) (by decide) rfl rfl rfl (by decide) g3 (v := A 7 x2) rfl ?_
        obtain ⟨g6, h⟩ := h
        obtain ⟨r_1, A_1, he, hr_1, hR_1, hp_1⟩ := S151 (A := A) (Nat.le_trans (by decide) hd) hΦ hR ⟨rr.1, rr.2, (hR 7 x2)⟩ g6
        have h := h r_1 A_1 hr_1 hR_1 hp_1
        refine p_callV (cc3 c148_42) (Nat.le_of_ble_eq_true rfl) rfl rfl (Nat.le_of_ble_eq_true rfl) (ml_kd hΦ) he ?_
        refine i_push (n := 1000000) (cc3 c148_45) zl_1000000 ?_
        refine i_icmp (c' := r_1 = 1000000) (cc3 c148_47) (iz_inj hr_1 (by decide)) (fun c => ?_) (fun c => ?_)
        · have h := h.1 c
          refine i_push (n := (-1)) (cc3 c148_50) zl_m1 ?_
          exact p_ri (cc3 c148_51) trivial h
        · have h := h.2 c
          refine p_ald (cc3 c148_52) rfl ?_
          refine pm_getp hΦ (cc3 c148_53) (c := 20) rfl (by decide) ?_
          refine p_ild (cc3 c148_56) rfl ?_
          refine p_ild (cc3 c148_57) rfl ?_
          refine id (α := Rg x2 → _) (fun _ => ?_) rr.2; refine n_asti hΦ (c := 20) (n := 8) (ni := 8) (hv := rfl) (cc3 c148_58) (by decide) rfl rfl rfl (by decide) g4 ?_
          refine p_ald (cc3 c148_59) rfl ?_
          refine pm_getp hΦ (cc3 c148_60) (c := 21) rfl (by decide) ?_
          refine p_ild (cc3 c148_63) rfl ?_
          refine p_ald (cc3 c148_64) rfl ?_
          refine n_geti hΦ (v := A_1 0 40) (cc3 c148_65) (ji := 40) rfl rfl ?_
          refine id (α := Rg (A_1 0 40) → _) (fun _ => ?_) (hR_1 0 40); refine n_asti hΦ (c := 21) (n := 8) (ni := 8) (hv := rfl) (cc3 c148_68) (by decide) rfl rfl rfl (by decide) g4 ?_
          refine p_ald (cc3 c148_69) rfl ?_
          refine pm_getp hΦ (cc3 c148_70) (c := 22) rfl (by decide) ?_
          refine p_ild (cc3 c148_73) rfl ?_
          refine p_ald (cc3 c148_74) rfl ?_
          refine n_geti hΦ (v := A_1 0 41) (cc3 c148_75) (ji := 41) rfl rfl ?_
          refine p_ald (cc3 c148_78) rfl ?_
          refine pm_getp hΦ (cc3 c148_79) (c := 18) rfl (by decide) ?_
          refine p_ild (cc3 c148_82) rfl ?_
          refine n_aldi hΦ (c := 18) (n := 8) (ni := 8) (cc3 c148_83) (by decide) rfl rfl rfl (by decide) g4 (v := A_1 18 x1) (by first | rfl | exact UA_eq | simp [UA]) ?_
          obtain ⟨g7, h⟩ := h
          refine (fun _ : Rg ((A_1 0 41) - (A_1 18 x1)) => i_sub (cc3 c148_84) ?_) g7
          refine id (α := Rg ((A_1 0 41) - (A_1 18 x1)) → _) (fun _ => ?_) g7; refine n_asti hΦ (c := 22) (n := 8) (ni := 8) (hv := rfl) (cc3 c148_85) (by decide) rfl rfl rfl (by decide) g4 ?_
          refine p_ald (cc3 c148_86) rfl ?_
          refine pm_getp hΦ (cc3 c148_87) (c := 23) rfl (by decide) ?_
          refine p_ild (cc3 c148_90) rfl ?_
          refine p_ald (cc3 c148_91) rfl ?_
          refine n_geti hΦ (v := A_1 0 39) (cc3 c148_92) (ji := 39) rfl rfl ?_
          refine id (α := Rg (A_1 0 39) → _) (fun _ => ?_) (hR_1 0 39); refine n_asti hΦ (c := 23) (n := 8) (ni := 8) (hv := rfl) (cc3 c148_95) (by decide) rfl rfl rfl (by decide) g4 ?_
          refine p_ald (cc3 c148_96) rfl ?_
          refine pm_getp hΦ (cc3 c148_97) (c := 25) rfl (by decide) ?_
          refine p_ild (cc3 c148_100) rfl ?_
          refine p_ald (cc3 c148_101) rfl ?_
          refine pm_getp hΦ (cc3 c148_102) (c := 17) rfl (by decide) ?_
          refine p_ild (cc3 c148_105) rfl ?_
          refine n_aldi hΦ (c := 17) (n := 8) (ni := 8) (cc3 c148_106) (by decide) rfl rfl rfl (by decide) g4 (v := A_1 17 x1) (by first | rfl | exact UA_eq | simp [UA]) ?_
          refine id (α := Rg (A_1 17 x1) → _) (fun _ => ?_) (hR_1 17 x1); refine n_asti hΦ (c := 25) (n := 8) (ni := 8) (hv := rfl) (cc3 c148_107) (by decide) rfl rfl rfl (by decide) g4 ?_
          refine p_ald (cc3 c148_108) rfl ?_
          refine pm_getp hΦ (cc3 c148_109) (c := 28) rfl (by decide) ?_
          refine p_ild (cc3 c148_112) rfl ?_
          refine i_push (n := 0) (cc3 c148_113) zl_0 ?_
          refine id (α := Rg 0 → _) (fun _ => ?_) (by decide); refine n_asti hΦ (c := 28) (n := 8) (ni := 8) (hv := (vnarB (by decide))) (cc3 c148_114) (by decide) rfl rfl rfl (by decide) g4 ?_
          refine i_push (n := 0) (cc3 c148_115) zl_0 ?_
          refine p_ist (ls' := [(3, .int (iz 0)), (0, .ref m), (1, .int (iz x1)), (2, .int (iz x2))]) (cc3 c148_116) (by decide) rfl ?_
          exact p_lc (ls' := [(0, .ref m), (1, .int (iz x1)), (2, .int (iz x2)), (3, .int (iz 0))]) c148_117 rfl rfl h
theorem V148_117 {d : Nat} (hd : 4 ≤ d) {Q : Option Value → xM → Prop} {m : Nat} {Φ : (Nat → Nat → Int32) → xM} (hΦ : MLaw m Φ) {A : Nat → Int → Int} (hR : RG A) {x1 x2 x3 : Int} (rr : Rg x1 ∧ Rg x2 ∧ Rg x3) (h : (0 ≤ x1 ∧ x1 < 8) ∧ ((((A 15 x1) ≤ x3) → (Rg ((A 15 x1) - 1)) ∧ (0 ≤ ((A 15 x1) - 1) ∧ ((A 15 x1) - 1) < 24) ∧ (Rg ((A 32 ((A 15 x1) - 1)) + (A 17 x1))) ∧ (0 ≤ x2 ∧ x2 < 5) ∧ (0 ≤ (A 7 x2) ∧ (A 7 x2) < 5) ∧ (0 ≤ (0 : Int) ∧ (0 : Int) < 10) ∧ (∀ k : Int, 0 ≤ k → k ≤ (0 : Int) → 0 ≤ A 5 (10 * (A 7 x2) + k) ∧ A 5 (10 * (A 7 x2) + k) ≤ 999) ∧ (Rg (m_centre A (A 7 x2) 0)) ∧ (0 < A 0 32 ∧ A 0 32 ≤ 400) ∧ (-100000000 ≤ ((A 32 ((A 15 x1) - 1)) + (A 17 x1)) ∧ ((A 32 ((A 15 x1) - 1)) + (A 17 x1)) ≤ 100000000) ∧ (0 ≤ ((A 18 x1).tdiv 2) ∧ ((A 18 x1).tdiv 2) ≤ 100000000) ∧ (0 ≤ (m_centre A (A 7 x2) 0) ∧ (m_centre A (A 7 x2) 0) ≤ 100000000) ∧ (Rg ((A 22 x1) - (lst (A 0 32) ((A 32 ((A 15 x1) - 1)) + (A 17 x1)) ((A 18 x1).tdiv 2) (m_centre A (A 7 x2) 0)))) ∧ (0 < (A 0 32) ∧ (A 0 32) ≤ 2147483647) ∧ Q (some (.int (iz (A 0 41)))) (Φ (mI (UA A 24 x1 (((A 22 x1) - (lst (A 0 32) ((A 32 ((A 15 x1) - 1)) + (A 17 x1)) ((A 18 x1).tdiv 2) (m_centre A (A 7 x2) 0))).tdiv (A 0 32)))))) ∧ (¬ ((A 15 x1) ≤ x3) → (Rg (24 * x1)) ∧ (Rg ((24 * x1) + x3)) ∧ (0 ≤ x3 ∧ x3 < 24) ∧ (0 ≤ ((24 * x1) + x3) ∧ ((24 * x1) + x3) < 192) ∧ (Rg (x3 + 1)) ∧ wpE (xT 148) (xev xT d) Q (117, [(0, .ref m), (1, .int (iz x1)), (2, .int (iz x2)), (3, .int (iz (x3 + 1)))], [], Φ (mI (UA (UA A 26 ((24 * x1) + x3) (A 32 x3)) 27 ((24 * x1) + x3) (A 31 x3))))))) : wpE (xT 148) (xev xT d) Q (117, [(0, .ref m), (1, .int (iz x1)), (2, .int (iz x2)), (3, .int (iz x3))], [], Φ (mI A)) := by
  refine p_ild (cct c148_117 rfl) rfl ?_
  refine p_ald (cc3 c148_118) rfl ?_
  refine pm_getp hΦ (cc3 c148_119) (c := 15) rfl (by decide) ?_
  refine p_ild (cc3 c148_122) rfl ?_
  obtain ⟨g1, h⟩ := h
  refine n_aldi hΦ (c := 15) (n := 8) (ni := 8) (cc3 c148_123) (by decide) rfl rfl rfl (by decide) g1 (v := A 15 x1) rfl ?_
  refine i_icmp (c' := (A 15 x1) ≤ x3) (cc3 c148_124) (iz_le (hR 15 x1) rr.2.2) (fun c => ?_) (fun c => ?_)
  · have h := h.1 c
    refine p_ald (cc3 c148_167) rfl ?_
    refine pm_getp hΦ (cc3 c148_168) (c := 24) rfl (by decide) ?_
    refine p_ild (cc3 c148_171) rfl ?_
    refine p_ald (cc3 c148_172) rfl ?_
    refine pm_getp hΦ (cc3 c148_173) (c := 22) rfl (by decide) ?_
    refine p_ild (cc3 c148_176) rfl ?_
    refine n_aldi hΦ (c := 22) (n := 8) (ni := 8) (cc3 c148_177) (by decide) rfl rfl rfl (by decide) g1 (v := A 22 x1) rfl ?_
    refine p_ald (cc3 c148_178) rfl ?_
    refine p_ald (cc3 c148_179) rfl ?_
    refine pm_getp hΦ (cc3 c148_180) (c := 32) rfl (by decide) ?_
    refine p_ald (cc3 c148_183) rfl ?_
    refine pm_getp hΦ (cc3 c148_184) (c := 15) rfl (by decide) ?_
    refine p_ild (cc3 c148_187) rfl ?_
    refine n_aldi hΦ (c := 15) (n := 8) (ni := 8) (cc3 c148_188) (by decide) rfl rfl rfl (by decide) g1 (v := A 15 x1) rfl ?_
    refine i_push (n := 1) (cc3 c148_189) zl_1 ?_
    obtain ⟨g2, h⟩ := h
    refine (fun _ : Rg ((A 15 x1) - 1) => i_sub (cc3 c148_190) ?_) g2
    obtain ⟨g3, h⟩ := h
    refine n_aldi hΦ (c := 32) (n := 24) (ni := 24) (cc3 c148_191) (by decide) rfl rfl rfl (by decide) g3 (v := A 32 ((A 15 x1) - 1)) rfl ?_
    refine p_ald (cc3 c148_192) rfl ?_
    refine pm_getp hΦ (cc3 c148_193) (c := 17) rfl (by decide) ?_
    refine p_ild (cc3 c148_196) rfl ?_
    refine n_aldi hΦ (c := 17) (n := 8) (ni := 8) (cc3 c148_197) (by decide) rfl rfl rfl (by decide) g1 (v := A 17 x1) rfl ?_
    obtain ⟨g4, h⟩ := h
    refine (fun _ : Rg ((A 32 ((A 15 x1) - 1)) + (A 17 x1)) => i_add (cc3 c148_198) ?_) g4
    refine p_ald (cc3 c148_199) rfl ?_
    refine pm_getp hΦ (cc3 c148_200) (c := 18) rfl (by decide) ?_
    refine p_ild (cc3 c148_203) rfl ?_
    refine n_aldi hΦ (c := 18) (n := 8) (ni := 8) (cc3 c148_204) (by decide) rfl rfl rfl (by decide) g1 (v := A 18 x1) rfl ?_
    refine i_push (n := 2) (cc3 c148_205) zl_2 ?_
    refine i_div (cc3 c148_206) (hR 18 x1) (by decide) ?_
    refine p_ald (cc3 c148_207) rfl ?_
    refine p_ald (cc3 c148_208) rfl ?_
    refine pm_getp hΦ (cc3 c148_209) (c := 7) rfl (by decide) ?_
    refine p_ild (cc3 c148_212) rfl ?_
    obtain ⟨g5, h⟩ := h
    refine n_aldi hΦ (c := 7) (n := 5) (ni := 5) (cc3 c148_213) (by decide) rfl rfl rfl (by decide) g5 (v := A 7 x2) rfl ?_
    refine i_push (n := 0) (cc3 c148_214) zl_0 ?_
    obtain ⟨g6, h⟩ := h
    obtain ⟨g7, h⟩ := h
    obtain ⟨g8, h⟩ := h
    refine p_callV (cc3 c148_215) (Nat.le_of_ble_eq_true rfl) rfl rfl (Nat.le_of_ble_eq_true rfl) (ml_kd hΦ) (S137 (Nat.le_trans (by decide) hd) hΦ hR ⟨(hR 7 x2), (by decide)⟩ ⟨g6, g7, g8⟩) ?_
    obtain ⟨g9, h⟩ := h
    obtain ⟨g10, h⟩ := h
    obtain ⟨g11, h⟩ := h
    obtain ⟨g12, h⟩ := h
    obtain ⟨g13, h⟩ := h
    refine p_callV (cc3 c148_218) (Nat.le_of_ble_eq_true rfl) rfl rfl (Nat.le_of_ble_eq_true rfl) (ml_kd hΦ) (S152 (Nat.le_trans (by decide) hd) hΦ hR ⟨g4, (rg_tdiv (hR 18 x1) (by decide : 0 < (2 : Int) ∧ (2 : Int) ≤ 2147483647).1), g9⟩ ⟨g10, g11, g12, g13⟩) ?_
    obtain ⟨g14, h⟩ := h
    refine (fun _ : Rg ((A 22 x1) - (lst (A 0 32) ((A 32 ((A 15 x1) - 1)) + (A 17 x1)) ((A 18 x1).tdiv 2) (m_centre A (A 7 x2) 0))) => i_sub (cc3 c148_221) ?_) g14
    refine p_ald (cc3 c148_222) rfl ?_
    refine n_geti hΦ (v := A 0 32) (cc3 c148_223) (ji := 32) rfl rfl ?_
    obtain ⟨g15, h⟩ := h
    refine i_div (cc3 c148_226) g14 g15 ?_
    refine id (α := Rg (((A 22 x1) - (lst (A 0 32) ((A 32 ((A 15 x1) - 1)) + (A 17 x1)) ((A 18 x1).tdiv 2) (m_centre A (A 7 x2) 0))).tdiv (A 0 32)) → _) (fun _ => ?_) (rg_tdiv g14 g15.1); refine n_asti hΦ (c := 24) (n := 8) (ni := 8) (hv := rfl) (cc3 c148_227) (by decide) rfl rfl rfl (by decide) g1 ?_
    refine p_ald (cc3 c148_228) rfl ?_
    refine n_geti hΦ (v := A 0 41) (cc3 c148_229) (ji := 41) rfl rfl ?_
    exact p_ri (cc3 c148_232) trivial h
  · have h := h.2 c
    refine p_ald (cc3 c148_127) rfl ?_
    refine pm_getp hΦ (cc3 c148_128) (c := 26) rfl (by decide) ?_
    refine i_push (n := 24) (cc3 c148_131) zl_24 ?_
    refine p_ild (cc3 c148_133) rfl ?_
    obtain ⟨g2, h⟩ := h
    refine (fun _ : Rg (24 * x1) => i_mul (cc3 c148_134) ?_) g2
    refine p_ild (cc3 c148_135) rfl ?_
    obtain ⟨g3, h⟩ := h
    refine (fun _ : Rg ((24 * x1) + x3) => i_add (cc3 c148_136) ?_) g3
    refine p_ald (cc3 c148_137) rfl ?_
    refine pm_getp hΦ (cc3 c148_138) (c := 32) rfl (by decide) ?_
    refine p_ild (cc3 c148_141) rfl ?_
    obtain ⟨g4, h⟩ := h
    refine n_aldi hΦ (c := 32) (n := 24) (ni := 24) (cc3 c148_142) (by decide) rfl rfl rfl (by decide) g4 (v := A 32 x3) rfl ?_
    obtain ⟨g5, h⟩ := h
    refine id (α := Rg (A 32 x3) → _) (fun _ => ?_) (hR 32 x3); refine n_asti hΦ (c := 26) (n := 192) (ni := 192) (hv := rfl) (cc3 c148_143) (by decide) rfl rfl rfl (by decide) g5 ?_
    refine p_ald (cc3 c148_144) rfl ?_
    refine pm_getp hΦ (cc3 c148_145) (c := 27) rfl (by decide) ?_
    refine i_push (n := 24) (cc3 c148_148) zl_24 ?_
    refine p_ild (cc3 c148_150) rfl ?_
    refine (fun _ : Rg (24 * x1) => i_mul (cc3 c148_151) ?_) g2
    refine p_ild (cc3 c148_152) rfl ?_
    refine (fun _ : Rg ((24 * x1) + x3) => i_add (cc3 c148_153) ?_) g3
    refine p_ald (cc3 c148_154) rfl ?_
    refine pm_getp hΦ (cc3 c148_155) (c := 31) rfl (by decide) ?_
    refine p_ild (cc3 c148_158) rfl ?_
    refine n_aldi hΦ (c := 31) (n := 24) (ni := 24) (cc3 c148_159) (by decide) rfl rfl rfl (by decide) g4 (v := A 31 x3) (by first | rfl | exact UA_eq | simp [UA]) ?_
    refine id (α := Rg (A 31 x3) → _) (fun _ => ?_) (hR 31 x3); refine n_asti hΦ (c := 27) (n := 192) (ni := 192) (hv := rfl) (cc3 c148_160) (by decide) rfl rfl rfl (by decide) g5 ?_
    obtain ⟨g6, h⟩ := h
    refine (fun _ : Rg (x3 + 1) => i_iinc (n := 1) (y := x3 + 1) (ls' := [(3, .int (iz (x3 + 1))), (0, .ref m), (1, .int (iz x1)), (2, .int (iz x2))]) (cc3 c148_161) (by decide) rfl zl_1 (by first | rfl | omega) rfl ?_) g6
    refine p_goto (cc3 c148_164) ?_
    exact p_lc (ls' := [(0, .ref m), (1, .int (iz x1)), (2, .int (iz x2)), (3, .int (iz (x3 + 1)))]) c148_117 rfl rfl h

theorem L148 {d : Nat} (hd : 4 ≤ d) {Q : Option Value → xM → Prop} {m : Nat} {Φ : (Nat → Nat → Int32) → xM} (hΦ : MLaw m Φ) {A0 A1 : Nat → Int → Int} {k b s j U : Int} (hF : FindC A0 k b s) (hs : s = A0 7 b) (hU : U = (lyB A0 k b s 4).1) (hj : j = (lyB A0 k b s 4).2) (hlt : U < 1000000)
    (hQ : ∀ A', RG A' → LaidTo A0 A' k b → Q (some (.int (iz U))) (Φ (mI A'))) (hf : FoundC A0 A1 k b s j) (hb8 : A0 8 b ≤ 9999) :
    ∀ (r p : Nat) (A : Nat → Int → Int), (p : Int) + r = A0 15 k → RG A → Fr [20, 21, 22, 23, 24, 25, 26, 27, 28, 29, 30, 31, 32] [32, 36, 39, 40, 41] A0 A →
      (∀ c ∈ [20, 21, 22, 23, 24, 25, 28], ∀ i : Int, ¬ i = k → A c i = A0 c i) → (∀ c ∈ [26, 27], ∀ i : Int, i < 24 * k ∨ 24 * k + A0 15 k ≤ i → A c i = A0 c i) →
      A 20 k = b ∧ A 21 k = lyS A0 k s j ∧ A 22 k = U - A0 18 k ∧ A 23 k = j ∧ A 25 k = A0 17 k ∧ A 28 k = 0 → A 31 = A1 31 ∧ A 32 = A1 32 ∧ A 0 32 = A0 3 s ∧ A 0 41 = U →
      (∀ q : Nat, q < p → A 26 (24 * k + q) = A1 32 q ∧ A 27 (24 * k + q) = A1 31 q) → wpE (xT 148) (xev xT d) Q (117, [(0, .ref m), (1, .int (iz k)), (2, .int (iz b)), (3, .int (iz p))], [], Φ (mI A)) := by
  have hF' := hF
  obtain ⟨⟨a1, a2, a3, a4, a5, a6, a7, a8, a9, a10, a11⟩, -⟩ := hF'
  have a5' : 1 ≤ A0 3 s ∧ A0 3 s ≤ 400 := a5
  have a8' : 4 ≤ A0 15 k ∧ A0 15 k ≤ 24 := a8
  have a9' : 1 ≤ A0 17 k ∧ A0 17 k ≤ 300 := a9
  have a10' : 0 ≤ A0 18 k ∧ A0 18 k ≤ 2400 := a10
  have a11' : 1 ≤ A0 5 (10 * s) ∧ A0 5 (10 * s) ≤ 999 := a11
  obtain ⟨i, i1, i2, i3, i4, i5⟩ := lyB_ok 4 (by rw [← hU]; exact hlt)
  have hji : j = i := by rw [hj, i2]
  have hUG : U = lyG A0 k b s i := by rw [hU, i3]
  have hG : lyG A0 k b s i = yG A0 k b s (A0 15 k - 1).toNat (lyX A0 k s i) := by
    unfold lyG
    split
    · rename_i c
      have : lyG A0 k b s i = 1000000 := by unfold lyG; rw [if_pos c]
      omega
    · rfl
  have hGlt : yG A0 k b s (A0 15 k - 1).toNat (lyX A0 k s i) < 1000000 := by omega
  have hxs : ∀ p : Nat, (p : Int) < A0 15 k → yxs A0 k b s (lyX A0 k s j) p + A0 17 k ≤ 9999 ∧ 0 ≤ yxs A0 k b s (lyX A0 k s j) p := fun p hp => by
    have h1 := (yG_ok _ _ (by rw [yxs_ok hGlt p (by omega)]; exact hGlt)).1
    rw [hji]
    refine ⟨by omega, ?_⟩
    clear h1
    induction p with
    | zero => exact (lyS_b hF (by omega)).2.1.1
    | succ p ih =>
      have ih' := ih (by omega)
      have hn := ypk_next (A := A0) (k := k) (b := b) (s := s) (p := p) (x := yxs A0 k b s (lyX A0 k s i) p) (by omega) (by rw [yxs_ok hGlt p (by omega)]; exact hGlt)
      show 0 ≤ yxs A0 k b s (lyX A0 k s i) p + yst A0 k (A0 3 s) p (ypk A0 k b s p (yxs A0 k b s (lyX A0 k s i) p))
      omega
  have hUb : U ≤ 9999 := by
    have := (yG_ok _ _ hGlt).2.1
    omega
  have b1 := half_b a10'
  have b2 := centre0_b (A := A0) (s := s) a11'
  have hxl := hxs (A0 15 k - 1).toNat (by omega)
  have hU0 : lst (A0 3 s) (yxs A0 k b s (lyX A0 k s j) (A0 15 k - 1).toNat + A0 17 k) ((A0 18 k).tdiv 2) (m_centre A0 s 0) + A0 18 k ≤ U := by
    have h1 := yxs_ok hGlt (A0 15 k - 1).toNat (by omega)
    rw [show (A0 15 k - 1 - ((A0 15 k - 1).toNat : Int)).toNat = 0 by omega, ← hji] at h1
    have hUe : U = yG A0 k b s 0 (yxs A0 k b s (lyX A0 k s j) (A0 15 k - 1).toNat) := by rw [h1, hUG, hG, hji]
    obtain ⟨q, q1, q2, q3, -⟩ := yG_end (by rw [← hUe]; exact hlt)
    have b4 := mul_b (a := q) (b := A0 3 s) (M := 4) (N := 400) (by omega) (by omega) (by omega) (by omega)
    omega
  intro r
  induction r with
  | zero =>
    intro p A hp hR hFr hr hx hk2 hm hcp
    obtain ⟨c1, c2, c3, c4, c5, c6⟩ := hk2
    obtain ⟨d1, d2, d3, d4⟩ := hm
    have e15 : A 15 = A0 15 := hFr.1 15 (by decide) (by decide)
    have e17 : A 17 = A0 17 := hFr.1 17 (by decide) (by decide)
    have e18 : A 18 = A0 18 := hFr.1 18 (by decide) (by decide)
    have e7 : A 7 = A0 7 := hFr.1 7 (by decide) (by decide)
    have e5 : A 5 = A0 5 := hFr.1 5 (by decide) (by decide)
    have ec : m_centre A = m_centre A0 := m_centre_c e5
    have hl := hf.2.2 (A0 15 k - 1).toNat (by omega)
    have el : A 32 (A0 15 k - 1) = yxs A0 k b s (lyX A0 k s j) (A0 15 k - 1).toNat := by
      rw [d2]; rw [show A0 15 k - 1 = (((A0 15 k - 1).toNat : Nat) : Int) by omega]; exact hl.1
    have b3 := lst_b (P := A0 3 s) (f := yxs A0 k b s (lyX A0 k s j) (A0 15 k - 1).toNat + A0 17 k) (a := (A0 18 k).tdiv 2) (c := m_centre A0 s 0) a5'
    refine V148_117 hd hΦ hR (by omega) ?_
    rw [e15, e17, e18, e7, e5, ec, d3, d4, c3, el, ← hs]
    refine ⟨a1, fun _ => ⟨by omega, by omega, by omega, by omega, by omega, by omega, fun q q1 q2 => by rw [show q = 0 by omega, Int.add_zero]; omega, by omega, by omega, by omega, by omega, by omega, by omega, by omega, ?_⟩, fun h => absurd (show A0 15 k ≤ p by omega) h⟩
    have rgt : Rg ((U - A0 18 k - lst (A0 3 s) (yxs A0 k b s (lyX A0 k s j) (A0 15 k - 1).toNat + A0 17 k) ((A0 18 k).tdiv 2) (m_centre A0 s 0)).tdiv (A0 3 s)) := rg_tdiv (by omega) (by omega)
    refine hQ _ (rg_UA hR rgt) ⟨hFr.row (by decide) (by decide), fun c hc q hq => ?_, fun c hc q hq => ?_, ?_, ?_, ?_, ?_, ?_, ?_, fun q hq => ?_, ?_⟩
    · rw [UA_j hq]; exact hr c hc q hq
    · rw [UA_c (by revert hc; simp; omega)]; exact hx c hc q hq
    · rw [UA_c (by decide)]; exact c1
    · rw [UA_c (by decide), ← hs, ← hj]; exact c2
    · rw [UA_c (by decide), ← hs, ← hU]; exact c3
    · rw [UA_c (by decide), ← hs, ← hj]; exact c4
    · rw [UA_c (by decide)]; exact c5
    · rw [UA_c (by decide)]; exact c6
    · rw [UA_c (by decide), UA_c (by decide), ← hs, ← hj]
      have h1 := hcp q (by omega)
      have h2 := hf.2.2 q hq
      exact ⟨h1.1.trans h2.1, h1.2.trans h2.2⟩
    · rw [UA_eq, ← hs, ← hU, ← hj]
  | succ r ih =>
    intro p A hp hR hFr hr hx hk2 hm hcp
    obtain ⟨d1, d2, d3, d4⟩ := hm
    have e15 : A 15 = A0 15 := hFr.1 15 (by decide) (by decide)
    refine V148_117 hd hΦ hR (by omega) ?_
    rw [e15]
    refine ⟨a1, fun h => absurd h (by omega), fun _ => ⟨by omega, by omega, by omega, by omega, by omega, ?_⟩⟩
    refine ih (p + 1) _ (by omega) (rg_UA (rg_UA hR (hR _ _)) (hR _ _)) ((hFr.row (by decide) (by decide)).row (by decide) (by decide)) (fun c hc q hq => ?_) (fun c hc q hq => ?_) ?_ ?_ (fun q hq => ?_)
    · rw [UA_c (by revert hc; simp; omega), UA_c (by revert hc; simp; omega)]; exact hr c hc q hq
    · rw [UA_j (by omega), UA_j (by omega)]; exact hx c hc q hq
    · simp only [UA_c (show ¬ (20 : Nat) = 27 by decide), UA_c (show ¬ (20 : Nat) = 26 by decide), UA_c (show ¬ (21 : Nat) = 27 by decide), UA_c (show ¬ (21 : Nat) = 26 by decide), UA_c (show ¬ (22 : Nat) = 27 by decide), UA_c (show ¬ (22 : Nat) = 26 by decide), UA_c (show ¬ (23 : Nat) = 27 by decide), UA_c (show ¬ (23 : Nat) = 26 by decide), UA_c (show ¬ (25 : Nat) = 27 by decide), UA_c (show ¬ (25 : Nat) = 26 by decide), UA_c (show ¬ (28 : Nat) = 27 by decide), UA_c (show ¬ (28 : Nat) = 26 by decide)]
      exact hk2
    · refine ⟨?_, ?_, ?_, ?_⟩
      · rw [← d1]; funext q; rw [UA_c (by decide), UA_c (by decide)]
      · rw [← d2]; funext q; rw [UA_c (by decide), UA_c (by decide)]
      · rw [UA_c (by decide), UA_c (by decide)]; exact d3
      · rw [UA_c (by decide), UA_c (by decide)]; exact d4
    · by_cases e : q = p
      · subst e
        rw [UA_c (by decide), UA_eq, UA_eq, d1, d2]
        exact ⟨rfl, rfl⟩
      · rw [UA_c (by decide), UA_j (by omega), UA_j (by omega), UA_c (by decide)]
        exact hcp q (by omega)
theorem S148 {d : Nat} (hd : 5 ≤ d) {m : Nat} {Φ : (Nat → Nat → Int32) → xM} (hΦ : MLaw m Φ) {A : Nat → Int → Int} (hR : RG A) {x1 x2 : Int} (rr : Rg x1 ∧ Rg x2) (hp : (SettsOK A) ∧ (BoltsOK A) ∧ (KiltsOK A)) : ∃ (r : Int) (A' : Nat → Int → Int), xev xT d 148 [.ref m, .int (iz x1), .int (iz x2)] (Φ (mI A)) (some (.int (iz r))) (Φ (mI A')) ∧ Rg r ∧ RG A' ∧ ((¬ ((0 ≤ x1 ∧ x1 ≤ A 0 13 - 1) ∧ (0 ≤ x2 ∧ x2 ≤ A 0 8 - 1) ∧ m_hasS A x1 (A 7 x2)) → r = -2 ∧ A' = A) ∧ (((0 ≤ x1 ∧ x1 ≤ A 0 13 - 1) ∧ (0 ≤ x2 ∧ x2 ≤ A 0 8 - 1) ∧ m_hasS A x1 (A 7 x2)) → ((lyB A x1 x2 (A 7 x2) 4).1 = 1000000 → r = -1 ∧ Fr [29, 30, 31, 32] [32, 36, 39, 40, 41] A A') ∧ (¬ (lyB A x1 x2 (A 7 x2) 4).1 = 1000000 → r = (lyB A x1 x2 (A 7 x2) 4).1 ∧ LaidTo A A' x1 x2))) := by
  refine xev_g (i := 148) (as := [.ref m, .int (iz x1), .int (iz x2)]) (σ := Φ (mI A)) (Q := fun r_ σ_ => ∃ (r : Int) (A' : Nat → Int → Int), r_ = (some (.int (iz r))) ∧ σ_ = Φ (mI A') ∧ Rg r ∧ RG A' ∧ ((¬ ((0 ≤ x1 ∧ x1 ≤ A 0 13 - 1) ∧ (0 ≤ x2 ∧ x2 ≤ A 0 8 - 1) ∧ m_hasS A x1 (A 7 x2)) → r = -2 ∧ A' = A) ∧ (((0 ≤ x1 ∧ x1 ≤ A 0 13 - 1) ∧ (0 ≤ x2 ∧ x2 ≤ A 0 8 - 1) ∧ m_hasS A x1 (A 7 x2)) → ((lyB A x1 x2 (A 7 x2) 4).1 = 1000000 → r = -1 ∧ Fr [29, 30, 31, 32] [32, 36, 39, 40, 41] A A') ∧ (¬ (lyB A x1 x2 (A 7 x2) 4).1 = 1000000 → r = (lyB A x1 x2 (A 7 x2) 4).1 ∧ LaidTo A A' x1 x2)))) (D := 4) hd (Nat.le_of_ble_eq_true rfl) (fun r_ σ_ he hq => ?_) (fun d hd => V148_0 hd hΦ hR rr ?_)
  · obtain ⟨r, A', rfl, rfl, hq⟩ := hq
    exact ⟨r, A', he, hq⟩

  obtain ⟨hs, hb, hk⟩ := hp
  have hs0 := hs.1
  have hb0 := hb.1
  have hk0 := hk.1
  refine ⟨hk0.1, fun h => ?_, fun h => ⟨hb0.1, fun h2 => ?_, fun h2 => ?_⟩⟩
  · exact ⟨-2, A, rfl, rfl, by decide, hR, fun _ => ⟨rfl, rfl⟩, fun q => absurd q.1 h⟩
  · exact ⟨-2, A, rfl, rfl, by decide, hR, fun _ => ⟨rfl, rfl⟩, fun q => absurd q.2.1 h2⟩
  obtain ⟨k1, k2⟩ := hk.2 x1 (by omega) (by omega)
  obtain ⟨b1, b2, b3⟩ := hb.2 x2 (by omega) (by omega)
  refine ⟨by omega, by omega, by omega, fun h3 => ?_, fun h3 => ?_⟩
  · exact ⟨-2, A, rfl, rfl, by decide, hR, fun _ => ⟨rfl, rfl⟩, fun q => absurd q.2.2 h3⟩
  have hF : FindC A x1 x2 (A 7 x2) := FindC.of (hs.2 _ (by omega) (by omega)) (by omega) k1 (by omega) (by omega) b3 b2 h3
  have hlt := lyB_le (A := A) (k := x1) (b := x2) (s := A 7 x2) 4
  refine ⟨hF, fun r1 A1 hr1 hR1 hp1 => ?_⟩
  obtain ⟨f1, f2, f3, f4, f5⟩ := hp1
  refine ⟨fun c => ?_, fun c => ?_⟩
  · exact ⟨-1, A1, rfl, rfl, by decide, hR1, fun q => absurd ⟨h, h2, h3⟩ q, fun _ => ⟨fun _ => ⟨rfl, f1⟩, fun q => absurd (f2.symm.trans c) q⟩⟩
  have hfc := f5 (by omega)
  have e18 : A1 18 = A 18 := f1.1 18 (by decide) (by decide)
  have e17 : A1 17 = A 17 := f1.1 17 (by decide) (by decide)
  have kb := k1.b
  have hub := ly_ub hF (by omega)
  have hfr : Fr [20, 21, 22, 23, 24, 25, 26, 27, 28, 29, 30, 31, 32] [32, 36, 39, 40, 41] A A1 := f1.mono (fun c h => by revert h; simp; omega) (fun j h => h)
  refine ⟨by rw [f4, e18]; omega, ?_⟩
  have hR2 := rg_UA (rg_UA (rg_UA (rg_UA (rg_UA (rg_UA hR1 (c := 20) (j := x1) rr.2) (c := 21) (j := x1) (hR1 0 40)) (c := 22) (j := x1) (v := A1 0 41 - A1 18 x1) (by rw [f4, e18]; omega)) (c := 23) (j := x1) (hR1 0 39)) (c := 25) (j := x1) (hR1 17 x1)) (c := 28) (j := x1) (v := 0) (by decide)
  refine L148 hd hΦ hF rfl f2 rfl (by omega) (fun A' hR' hl => ⟨r1, A', rfl, rfl, hr1, hR', fun q => absurd ⟨h, h2, h3⟩ q, fun _ => ⟨fun q => absurd (f2.trans q) c, fun _ => ⟨f2, hl⟩⟩⟩) hfc (by omega) (A 15 x1).toNat 0 _ (by have : 4 ≤ A 15 x1 := k1.2.2.2.2.1.1; omega) hR2 ((((((hfr.row (by decide) (by decide)).row (by decide) (by decide)).row (by decide) (by decide)).row (by decide) (by decide)).row (by decide) (by decide)).row (by decide) (by decide)) (fun c hc i hi => ?_) (fun c hc i hi => ?_) ?_ ?_ (fun q hq => absurd hq (by omega))
  · rw [UA_j hi, UA_j hi, UA_j hi, UA_j hi, UA_j hi, UA_j hi]
    exact congrFun (f1.1 c (by revert hc; simp; omega) (by revert hc; simp; omega)) i
  · rw [UA_c (by revert hc; simp; omega), UA_c (by revert hc; simp; omega), UA_c (by revert hc; simp; omega), UA_c (by revert hc; simp; omega), UA_c (by revert hc; simp; omega), UA_c (by revert hc; simp; omega)]
    exact congrFun (f1.1 c (by revert hc; simp; omega) (by revert hc; simp; omega)) i
  · refine ⟨?_, ?_, ?_, ?_, ?_, ?_⟩
    · rw [UA_c (by decide), UA_c (by decide), UA_c (by decide), UA_c (by decide), UA_c (by decide), UA_eq]
    · rw [UA_c (by decide), UA_c (by decide), UA_c (by decide), UA_c (by decide), UA_eq, hfc.2.1]
    · rw [UA_c (by decide), UA_c (by decide), UA_c (by decide), UA_eq, f4, e18]
    · rw [UA_c (by decide), UA_c (by decide), UA_eq, hfc.1]
    · rw [UA_c (by decide), UA_eq, e17]
    · rw [UA_eq]
  · exact ⟨rfl, rfl, by rw [UA_c (by decide), UA_c (by decide), UA_c (by decide), UA_c (by decide), UA_c (by decide), UA_c (by decide)]; exact f3, by rw [UA_c (by decide), UA_c (by decide), UA_c (by decide), UA_c (by decide), UA_c (by decide), UA_c (by decide)]; exact f4⟩
def ndRows : Nat → Int → Prop := fun c j => c = 29 ∨ c = 30 ∨ c = 31 ∨ c = 32 ∨ (c = 0 ∧ (j = 32 ∨ j = 36 ∨ j = 39 ∨ j = 40 ∨ j = 41)) ∨ ((c = 8 ∨ c = 9) ∧ j = 4)
/-- the scratch of the search for needs -/
def NFr (A A' : Nat → Int → Int) : Prop := ∀ c j, ¬ ndRows c j → A' c j = A c j
theorem NFr.rf {A : Nat → Int → Int} : NFr A A := fun _ _ _ => rfl
theorem NFr.tr {A A' A'' : Nat → Int → Int} (h : NFr A A') (h' : NFr A' A'') : NFr A A'' := fun c j q => (h' c j q).trans (h c j q)
/-- what a kilt needs: of sett 0, 9999 threads, without flaws -/
def Nd (A : Nat → Int → Int) : Nat → Int → Int := UA (UA A 8 4 9999) 9 4 0
def m_need (A : Nat → Int → Int) (k : Int) : Int := if m_hasS A k 0 then (lyB (Nd A) k 4 0 4).1 else 1000000
def m_needs (A : Nat → Int → Int) (k : Int) : Int := if 0 ≤ k ∧ k ≤ A 0 13 - 1 then (if ¬ A 0 2 = 0 ∧ m_hasS A k 0 then (if m_need A k = 1000000 then -1 else m_need A k) else -3) else -2
theorem FindC.nd {A : Nat → Int → Int} {k : Int} (hs : SettOK A 0) (hk : KiltOK A k) (hk2 : 0 ≤ k ∧ k < 8) (hst : m_hasS A k 0) : FindC (Nd A) k 4 0 := FindC.of (A := Nd A) hs (by omega) hk hk2 (by omega) (by show 0 ≤ (0 : Int) ∧ (0 : Int) ≤ 10; omega) (by show 100 ≤ (9999 : Int) ∧ (9999 : Int) ≤ 9999; omega) hst
theorem V191_0 {d : Nat} (hd : 4 ≤ d) {Q : Option Value → xM → Prop} {m : Nat} {Φ : (Nat → Nat → Int32) → xM} (hΦ : MLaw m Φ) {A : Nat → Int → Int} (hR : RG A) {x1 : Int} (rr : Rg x1) (h : (0 ≤ x1 ∧ x1 < 8) ∧ (0 ≤ (0 : Int) ∧ (0 : Int) < 5) ∧ ((¬ (¬ (A 11 x1 = 1 ∨ A 11 x1 = 3 ∨ A 11 x1 = 5) ∨ A 16 x1 < A 2 0) → Q (some (.int (iz 1000000))) (Φ (mI A))) ∧ ((¬ (A 11 x1 = 1 ∨ A 11 x1 = 3 ∨ A 11 x1 = 5) ∨ A 16 x1 < A 2 0) → (FindC (UA (UA A 8 4 9999) 9 4 0) x1 (4 : Int) (0 : Int)) ∧ (∀ (r_1 : Int) (A_1 : Nat → Int → Int), Rg r_1 → RG A_1 → (Fr [29, 30, 31, 32] [32, 36, 39, 40, 41] (UA (UA A 8 4 9999) 9 4 0) A_1 ∧ r_1 = (lyB (UA (UA A 8 4 9999) 9 4 0) x1 4 0 4).1 ∧ A_1 0 32 = (UA (UA A 8 4 9999) 9 4 0) 3 0 ∧ A_1 0 41 = r_1 ∧ (r_1 < 1000000 → FoundC (UA (UA A 8 4 9999) 9 4 0) A_1 x1 4 0 (lyB (UA (UA A 8 4 9999) 9 4 0) x1 4 0 4).2)) → Q (some (.int (iz r_1))) (Φ (mI A_1)))))) : wpE (xT 191) (xev xT d) Q (0, [(0, .ref m), (1, .int (iz x1))], [], Φ (mI A)) := by
  refine p_ald (cc3 c191_0) rfl ?_
  refine p_ild (cc3 c191_1) rfl ?_
  refine i_push (n := 0) (cc3 c191_2) zl_0 ?_
  obtain ⟨g1, h⟩ := h
  obtain ⟨g2, h⟩ := h
  refine p_callV (cc3 c191_3) (Nat.le_of_ble_eq_true rfl) rfl rfl (Nat.le_of_ble_eq_true rfl) (ml_kd hΦ) (S149 (Nat.le_trans (by decide) hd) hΦ hR ⟨rr, (by decide)⟩ ⟨g1, g2⟩) ?_
  refine i_ifB (cc3 c191_6) (fun c => ?_) (fun c => ?_)
  · have h := h.1 c
    refine i_push (n := 1000000) (cc3 c191_9) zl_1000000 ?_
    exact p_ri (cc3 c191_11) trivial h
  · have h := h.2 c
    refine p_ald (cc3 c191_12) rfl ?_
    refine pm_getp hΦ (cc3 c191_13) (c := 8) rfl (by decide) ?_
    refine i_push (n := 4) (cc3 c191_16) zl_4 ?_
    refine i_push (n := 9999) (cc3 c191_17) zl_9999 ?_
    refine id (α := Rg 9999 → _) (fun _ => ?_) (by decide); (first | refine n_asti hΦ (c := 8) (n := 5) (ni := 5) (hv := rfl) (cc3 c191_20) (by decide) rfl rfl rfl (by decide) (by decide) ?_)
    refine p_ald (cc3 c191_21) rfl ?_
    refine pm_getp hΦ (cc3 c191_22) (c := 9) rfl (by decide) ?_
    refine i_push (n := 4) (cc3 c191_25) zl_4 ?_
    refine i_push (n := 0) (cc3 c191_26) zl_0 ?_
    refine id (α := Rg 0 → _) (fun _ => ?_) (by decide); (first | refine n_asti hΦ (c := 9) (n := 5) (ni := 5) (hv := rfl) (cc3 c191_27) (by decide) rfl rfl rfl (by decide) (by decide) ?_)
    refine p_ald (cc3 c191_28) rfl ?_
    refine p_ild (cc3 c191_29) rfl ?_
    refine i_push (n := 4) (cc3 c191_30) zl_4 ?_
    refine i_push (n := 0) (cc3 c191_31) zl_0 ?_
    obtain ⟨g3, h⟩ := h
    obtain ⟨r_1, A_1, he, hr_1, hR_1, hp_1⟩ := S151 (A := UA (UA A 8 4 9999) 9 4 0) (Nat.le_trans (by decide) hd) hΦ (rg_UA (rg_UA hR (by decide)) (by decide)) ⟨rr, (by decide), (by decide)⟩ g3
    have h := h r_1 A_1 hr_1 hR_1 hp_1
    refine p_callV (cc3 c191_32) (Nat.le_of_ble_eq_true rfl) rfl rfl (Nat.le_of_ble_eq_true rfl) (ml_kd hΦ) he ?_
    exact p_ri (cc3 c191_35) trivial h
theorem S191 {d : Nat} (hd : 5 ≤ d) {m : Nat} {Φ : (Nat → Nat → Int32) → xM} (hΦ : MLaw m Φ) {A : Nat → Int → Int} (hR : RG A) {x1 : Int} (rr : Rg x1) (hp : (0 < A 0 2) ∧ (SettsOK A) ∧ (0 ≤ x1 ∧ x1 < 8) ∧ (KiltOK A x1)) : ∃ (r : Int) (A' : Nat → Int → Int), xev xT d 191 [.ref m, .int (iz x1)] (Φ (mI A)) (some (.int (iz r))) (Φ (mI A')) ∧ Rg r ∧ RG A' ∧ (r = m_need A x1 ∧ NFr A A') := by
  refine xev_g (i := 191) (as := [.ref m, .int (iz x1)]) (σ := Φ (mI A)) (Q := fun r_ σ_ => ∃ (r : Int) (A' : Nat → Int → Int), r_ = (some (.int (iz r))) ∧ σ_ = Φ (mI A') ∧ Rg r ∧ RG A' ∧ (r = m_need A x1 ∧ NFr A A')) (D := 4) hd (Nat.le_of_ble_eq_true rfl) (fun r_ σ_ he hq => ?_) (fun d hd => V191_0 hd hΦ hR rr ?_)
  · obtain ⟨r, A', rfl, rfl, hq⟩ := hq
    exact ⟨r, A', he, hq⟩

  obtain ⟨h0, hs, hk, k1⟩ := hp
  refine ⟨hk, by omega, fun h => ?_, fun h => ⟨?_, fun r1 A1 hr1 hR1 hp1 => ?_⟩⟩
  · exact ⟨_, A, rfl, rfl, by decide, hR, by unfold m_need; rw [if_neg h], NFr.rf⟩
  · exact FindC.nd (hs.2 0 (Int.le_refl 0) h0) k1 hk h
  · obtain ⟨f1, f2, f3, f4, f5⟩ := hp1
    refine ⟨r1, A1, rfl, rfl, hr1, hR1, by unfold m_need; rw [if_pos h]; exact f2, fun c j q => ?_⟩
    unfold ndRows at q
    by_cases c0 : c = 0
    · subst c0
      exact f1.2 j (by simp; omega)
    · rw [f1.1 c (by simp; omega) c0]
      unfold UA
      rw [if_neg (by omega), if_neg (by omega)]
theorem V190_0 {d : Nat} (hd : 5 ≤ d) {Q : Option Value → xM → Prop} {m : Nat} {Φ : (Nat → Nat → Int32) → xM} (hΦ : MLaw m Φ) {A : Nat → Int → Int} (hR : RG A) {x1 : Int} (rr : Rg x1) (h : (0 ≤ A 0 13) ∧ ((¬ (0 ≤ x1 ∧ x1 ≤ A 0 13 - 1) → Q (some (.int (iz (-2)))) (Φ (mI A))) ∧ ((0 ≤ x1 ∧ x1 ≤ A 0 13 - 1) → ((((A 0 2) = 0) → Q (some (.int (iz (-3)))) (Φ (mI A))) ∧ (¬ ((A 0 2) = 0) → (0 ≤ x1 ∧ x1 < 8) ∧ (0 ≤ (0 : Int) ∧ (0 : Int) < 5) ∧ ((¬ (¬ (A 11 x1 = 1 ∨ A 11 x1 = 3 ∨ A 11 x1 = 5) ∨ A 16 x1 < A 2 0) → Q (some (.int (iz (-3)))) (Φ (mI A))) ∧ ((¬ (A 11 x1 = 1 ∨ A 11 x1 = 3 ∨ A 11 x1 = 5) ∨ A 16 x1 < A 2 0) → (0 < A 0 2) ∧ (SettsOK A) ∧ (KiltOK A x1) ∧ (∀ (r_1 : Int) (A_1 : Nat → Int → Int), Rg r_1 → RG A_1 → (r_1 = m_need A x1 ∧ NFr A A_1) → (((r_1 = 1000000) → Q (some (.int (iz (-1)))) (Φ (mI A_1))) ∧ (¬ (r_1 = 1000000) → Q (some (.int (iz r_1))) (Φ (mI A_1)))))))))))) : wpE (xT 190) (xev xT d) Q (0, [(0, .ref m), (1, .int (iz x1))], [], Φ (mI A)) := by
  refine p_ald (cc3 c190_0) rfl ?_
  refine p_ild (cc3 c190_1) rfl ?_
  obtain ⟨g1, h⟩ := h
  refine p_callV (cc3 c190_2) (Nat.le_of_ble_eq_true rfl) rfl rfl (Nat.le_of_ble_eq_true rfl) (ml_kd hΦ) (S147 (Nat.le_trans (by decide) hd) hΦ hR rr g1) ?_
  refine i_ifB (cc3 c190_5) (fun c => ?_) (fun c => ?_)
  · have h := h.1 c
    refine i_push (n := (-2)) (cc3 c190_8) zl_m2 ?_
    exact p_ri (cc3 c190_10) trivial h
  · have h := h.2 c
    refine p_ald (cc3 c190_11) rfl ?_
    refine n_geti hΦ (v := A 0 2) (cc3 c190_12) (ji := 2) rfl rfl ?_
    refine i_if (c' := (A 0 2) = 0) (cc3 c190_15) (c_eq0 (hR 0 2)) (fun c => ?_) (fun c => ?_)
    · have h := h.1 c
      refine p_lc (ls' := []) c190_27 rfl rfl ?_
      refine i_push (n := (-3)) (cct c190_27 rfl) zl_m3 ?_
      exact p_ri (cc3 c190_29) trivial h
    · have h := h.2 c
      refine p_ald (cc3 c190_18) rfl ?_
      refine p_ild (cc3 c190_19) rfl ?_
      refine i_push (n := 0) (cc3 c190_20) zl_0 ?_
      obtain ⟨g2, h⟩ := h
      obtain ⟨g3, h⟩ := h
      refine p_callV (cc3 c190_21) (Nat.le_of_ble_eq_true rfl) rfl rfl (Nat.le_of_ble_eq_true rfl) (ml_kd hΦ) (S149 (Nat.le_trans (by decide) hd) hΦ hR ⟨rr, (by decide)⟩ ⟨g2, g3⟩) ?_
      refine i_ifB (cc3 c190_24) (fun c => ?_) (fun c => ?_)
      · have h := h.1 c
        refine p_lc (ls' := []) c190_27 rfl rfl ?_
        refine i_push (n := (-3)) (cct c190_27 rfl) zl_m3 ?_
        exact p_ri (cc3 c190_29) trivial h
      · have h := h.2 c
        refine p_ald (cc3 c190_30) rfl ?_
        refine p_ild (cc3 c190_31) rfl ?_
        obtain ⟨g4, h⟩ := h
        obtain ⟨g5, h⟩ := h
        obtain ⟨g6, h⟩ := h
        obtain ⟨r_1, A_1, he, hr_1, hR_1, hp_1⟩ := S191 (A := A) (Nat.le_trans (by decide) hd) hΦ hR rr ⟨g4, g5, g2, g6⟩
        have h := h r_1 A_1 hr_1 hR_1 hp_1
        refine p_callV (cc3 c190_32) (Nat.le_of_ble_eq_true rfl) rfl rfl (Nat.le_of_ble_eq_true rfl) (ml_kd hΦ) he ?_
        refine p_ist (ls' := [(2, .int (iz r_1)), (0, .ref m), (1, .int (iz x1))]) (cc3 c190_35) (by decide) rfl ?_
        refine p_ild (cc3 c190_36) rfl ?_
        refine i_push (n := 1000000) (cc3 c190_37) zl_1000000 ?_
        refine i_icmp (c' := r_1 = 1000000) (cc3 c190_39) (iz_inj hr_1 (by decide)) (fun c => ?_) (fun c => ?_)
        · have h := h.1 c
          refine i_push (n := (-1)) (cc3 c190_42) zl_m1 ?_
          refine p_goto (cc3 c190_43) ?_
          refine p_lc (ls' := []) c190_47 rfl rfl ?_
          exact p_ri (cct c190_47 rfl) trivial h
        · have h := h.2 c
          refine p_ild (cc3 c190_46) rfl ?_
          refine p_lc (ls' := []) c190_47 rfl rfl ?_
          exact p_ri (cct c190_47 rfl) trivial h
theorem S190 {d : Nat} (hd : 6 ≤ d) {m : Nat} {Φ : (Nat → Nat → Int32) → xM} (hΦ : MLaw m Φ) {A : Nat → Int → Int} (hR : RG A) {x1 : Int} (rr : Rg x1) (hp : (SettsOK A) ∧ (KiltsOK A)) : ∃ (r : Int) (A' : Nat → Int → Int), xev xT d 190 [.ref m, .int (iz x1)] (Φ (mI A)) (some (.int (iz r))) (Φ (mI A')) ∧ Rg r ∧ RG A' ∧ (r = m_needs A x1 ∧ NFr A A') := by
  refine xev_g (i := 190) (as := [.ref m, .int (iz x1)]) (σ := Φ (mI A)) (Q := fun r_ σ_ => ∃ (r : Int) (A' : Nat → Int → Int), r_ = (some (.int (iz r))) ∧ σ_ = Φ (mI A') ∧ Rg r ∧ RG A' ∧ (r = m_needs A x1 ∧ NFr A A')) (D := 5) hd (Nat.le_of_ble_eq_true rfl) (fun r_ σ_ he hq => ?_) (fun d hd => V190_0 hd hΦ hR rr ?_)
  · obtain ⟨r, A', rfl, rfl, hq⟩ := hq
    exact ⟨r, A', he, hq⟩

  obtain ⟨hs, hk⟩ := hp
  have hs0 := hs.1
  have hk0 := hk.1
  unfold m_needs
  refine ⟨hk0.1, fun h => ?_, fun h => ⟨fun h2 => ?_, fun h2 => ⟨by omega, by omega, fun h3 => ?_, fun h3 => ?_⟩⟩⟩
  · exact ⟨_, A, rfl, rfl, by decide, hR, by rw [if_neg h], NFr.rf⟩
  · exact ⟨_, A, rfl, rfl, by decide, hR, by rw [if_pos h, if_neg (fun q => q.1 h2)], NFr.rf⟩
  · exact ⟨_, A, rfl, rfl, by decide, hR, by rw [if_pos h, if_neg (fun q => h3 q.2)], NFr.rf⟩
  · refine ⟨by omega, hs, (hk.2 x1 (by omega) (by omega)).1, fun r1 A1 hr1 hR1 hp1 => ⟨fun c => ?_, fun c => ?_⟩⟩
    · exact ⟨_, A1, rfl, rfl, by decide, hR1, by rw [if_pos h, if_pos ⟨h2, h3⟩, ← hp1.1, if_pos c], hp1.2⟩
    · exact ⟨r1, A1, rfl, rfl, hr1, hR1, by rw [if_pos h, if_pos ⟨h2, h3⟩, ← hp1.1, if_neg c], hp1.2⟩
