/-- where a sett's cells may change -/
def SFr (s : Int) (fs : List Int) (A A' : Nat → Int → Int) : Prop := Fr [2, 3, 4, 5, 6] fs A A' ∧ (∀ c ∈ [2, 3, 6], ∀ i : Int, ¬ i = s → A' c i = A c i) ∧ ∀ c ∈ [4, 5], ∀ i : Int, i < 10 * s ∨ 10 * s + 10 ≤ i → A' c i = A c i
theorem SFr.rf {s : Int} {fs : List Int} {A : Nat → Int → Int} : SFr s fs A A := ⟨Fr.rf, fun _ _ _ _ => rfl, fun _ _ _ _ => rfl⟩
theorem SFr.tr {s : Int} {fs : List Int} {A A' A'' : Nat → Int → Int} (h : SFr s fs A A') (h' : SFr s fs A' A'') : SFr s fs A A'' := ⟨h.1.tr h'.1, fun c hc i hi => (h'.2.1 c hc i hi).trans (h.2.1 c hc i hi), fun c hc i hi => (h'.2.2 c hc i hi).trans (h.2.2 c hc i hi)⟩
theorem SFr.fld {s : Int} {fs : List Int} {A A' : Nat → Int → Int} {j v : Int} (h : SFr s fs A A') (hj : j ∈ fs) : SFr s fs A (UA A' 0 j v) := ⟨h.1.fld hj, fun c hc i hi => by rw [UA_c (by revert hc; simp; omega)]; exact h.2.1 c hc i hi, fun c hc i hi => by rw [UA_c (by revert hc; simp; omega)]; exact h.2.2 c hc i hi⟩
theorem SFr.row {s : Int} {fs : List Int} {A A' : Nat → Int → Int} {c : Nat} {v : Int} (h : SFr s fs A A') (hc : c ∈ [2, 3, 6]) : SFr s fs A (UA A' c s v) := ⟨h.1.row (by revert hc; simp; omega) (by revert hc; simp; omega), fun q hq i hi => by rw [UA_j hi]; exact h.2.1 q hq i hi, fun q hq i hi => by rw [UA_c (by revert hc hq; simp; omega)]; exact h.2.2 q hq i hi⟩
theorem srq_n {t : Int → Int} {n : Int} (hn : 0 ≤ n) : ∀ k : Nat, (∀ j, j < k → srC t n j) → 0 ≤ srq t n k ∧ srq t n k ≤ n
  | 0, _ => ⟨Int.le_refl 0, hn⟩
  | k + 1, h => by
    have h1 := srq_n hn k (fun j hj => h j (by omega))
    have h2 := h k (by omega)
    have h3 := nd_b (t := t) (n := n) (p := srq t n k + 1)
    have e : srq t n (k + 1) = srq t n k + 1 + nd t n (srq t n k + 1) + 1 := rfl
    have e2 : srE t n (srq t n k) = srq t n k + 1 + nd t n (srq t n k + 1) := rfl
    have h4 := h2.2.1
    omega
/-- what is read of the stripes up to k -/
def srRead (A A' : Nat → Int → Int) (s : Int) (k : Nat) : Prop := ∀ j : Nat, j ≤ k → A' 4 (10 * s + j) = A 1 (srq (A 1) (A 0 1) j) - 97 ∧ A' 5 (10 * s + j) = cv (A 1) (A 0 1) (srq (A 1) (A 0 1) j + 1)
theorem V131_0 {d : Nat} (hd : 2 ≤ d) {Q : Option Value → xM → Prop} {m : Nat} {Φ : (Nat → Nat → Int32) → xM} (hΦ : MLaw m Φ) {A : Nat → Int → Int} (hR : RG A) {x1 : Int} (rr : Rg x1) (h : (0 ≤ x1 ∧ x1 < 5) ∧ (0 ≤ ((UA (UA A 0 46 0) 2 x1 0) 2 x1) ∧ ((UA (UA A 0 46 0) 2 x1 0) 2 x1) ≤ 9) ∧ (0 ≤ (0 : Int) ∧ (0 : Int) ≤ (A 0 1)) ∧ ((A 0 1) ≤ 160) ∧ (∀ (r_1 : Int) (A_1 : Nat → Int → Int), Rg r_1 → RG A_1 → ((srOK ((UA (UA A 0 46 0) 2 x1 0) 1) ((UA (UA A 0 46 0) 2 x1 0) 0 1) ((UA (UA A 0 46 0) 2 x1 0) 0 46) → r_1 = 1 ∧ A_1 0 46 = srE ((UA (UA A 0 46 0) 2 x1 0) 1) ((UA (UA A 0 46 0) 2 x1 0) 0 1) ((UA (UA A 0 46 0) 2 x1 0) 0 46) ∧ Fr [2, 4, 5] [46] (UA (UA A 0 46 0) 2 x1 0) A_1 ∧ (∀ i, ¬ i = x1 → A_1 2 i = (UA (UA A 0 46 0) 2 x1 0) 2 i) ∧ A_1 2 x1 = (UA (UA A 0 46 0) 2 x1 0) 2 x1 + 1 ∧ (∀ i, ¬ i = 10 * x1 + (UA (UA A 0 46 0) 2 x1 0) 2 x1 → A_1 4 i = (UA (UA A 0 46 0) 2 x1 0) 4 i ∧ A_1 5 i = (UA (UA A 0 46 0) 2 x1 0) 5 i) ∧ A_1 4 (10 * x1 + (UA (UA A 0 46 0) 2 x1 0) 2 x1) = (UA (UA A 0 46 0) 2 x1 0) 1 ((UA (UA A 0 46 0) 2 x1 0) 0 46) - 97 ∧ A_1 5 (10 * x1 + (UA (UA A 0 46 0) 2 x1 0) 2 x1) = cv ((UA (UA A 0 46 0) 2 x1 0) 1) ((UA (UA A 0 46 0) 2 x1 0) 0 1) ((UA (UA A 0 46 0) 2 x1 0) 0 46 + 1)) ∧ (¬ srOK ((UA (UA A 0 46 0) 2 x1 0) 1) ((UA (UA A 0 46 0) 2 x1 0) 0 1) ((UA (UA A 0 46 0) 2 x1 0) 0 46) → r_1 = 0 ∧ A_1 0 46 = srF ((UA (UA A 0 46 0) 2 x1 0) 1) ((UA (UA A 0 46 0) 2 x1 0) 0 1) ((UA (UA A 0 46 0) 2 x1 0) 0 46) ∧ Fr [4] [46] (UA (UA A 0 46 0) 2 x1 0) A_1 ∧ ∀ i, ¬ i = 10 * x1 + (UA (UA A 0 46 0) 2 x1 0) 2 x1 → A_1 4 i = (UA (UA A 0 46 0) 2 x1 0) 4 i)) → (((r_1 = 0) → Q (some (.int (iz 0))) (Φ (mI A_1))) ∧ (¬ (r_1 = 0) → wpE (xT 131) (xev xT d) Q (22, [(0, .ref m), (1, .int (iz x1))], [], Φ (mI A_1)))))) : wpE (xT 131) (xev xT d) Q (0, [(0, .ref m), (1, .int (iz x1))], [], Φ (mI A)) := by
  refine p_ald (cc3 c131_0) rfl ?_
  refine i_push (n := 0) (cc3 c131_1) zl_0 ?_
  refine (fun _ : Rg 0 => n_puti hΦ (cc3 c131_2) (ji := 46) rfl ?_) (by decide)
  refine p_ald (cc3 c131_5) rfl ?_
  refine pm_getp hΦ (cc3 c131_6) (c := 2) rfl (by decide) ?_
  refine p_ild (cc3 c131_9) rfl ?_
  refine i_push (n := 0) (cc3 c131_10) zl_0 ?_
  obtain ⟨g1, h⟩ := h
  refine id (α := Rg 0 → _) (fun _ => ?_) (by decide); refine n_asti hΦ (c := 2) (n := 5) (ni := 5) (hv := rfl) (cc3 c131_11) (by decide) rfl rfl rfl (by decide) g1 ?_
  refine p_ald (cc3 c131_12) rfl ?_
  refine p_ild (cc3 c131_13) rfl ?_
  obtain ⟨g2, h⟩ := h
  obtain ⟨g3, h⟩ := h
  obtain ⟨g4, h⟩ := h
  obtain ⟨r_1, A_1, he, hr_1, hR_1, hp_1⟩ := S132 (A := UA (UA A 0 46 0) 2 x1 0) (Nat.le_trans (by decide) hd) hΦ (rg_UA (rg_UA hR (by decide)) (by decide)) rr ⟨g1, g2, g3, g4⟩
  have h := h r_1 A_1 hr_1 hR_1 hp_1
  refine p_callV (cc3 c131_14) (Nat.le_of_ble_eq_true rfl) rfl rfl (Nat.le_of_ble_eq_true rfl) (ml_kd hΦ) he ?_
  refine i_if (c' := r_1 = 0) (cc3 c131_17) (c_eq0 hr_1) (fun c => ?_) (fun c => ?_)
  · have h := h.1 c
    refine i_push (n := 0) (cc3 c131_20) zl_0 ?_
    exact i_ri (cc3 c131_21) (by decide) h
  · have h := h.2 c
    exact h
theorem V131_22 {d : Nat} (hd : 2 ≤ d) {Q : Option Value → xM → Prop} {m : Nat} {Φ : (Nat → Nat → Int32) → xM} (hΦ : MLaw m Φ) {A : Nat → Int → Int} (hR : RG A) {x1 : Int} (rr : Rg x1) (h : ((((A 0 1) ≤ (A 0 46)) → ((((A 0 46) = (A 0 1)) → Q (some (.int (iz 0))) (Φ (mI A))) ∧ (¬ ((A 0 46) = (A 0 1)) → (0 ≤ (A 0 46) ∧ (A 0 46) < 160) ∧ ((((A 1 (A 0 46)) = 47) → ((((A 1 (A 0 46)) = 47) → (0 ≤ x1 ∧ x1 < 5) ∧ (Rg ((A 0 46) + 1)) ∧ (((((A 0 46) + 1) = (A 0 1)) → Q (some (.int (iz 1))) (Φ (mI (UA (UA A 6 x1 1) 0 46 ((A 0 46) + 1))))) ∧ (¬ (((A 0 46) + 1) = (A 0 1)) → Q (some (.int (iz 0))) (Φ (mI (UA (UA A 6 x1 1) 0 46 ((A 0 46) + 1))))))) ∧ (¬ ((A 1 (A 0 46)) = 47) → (0 ≤ x1 ∧ x1 < 5) ∧ (Rg ((A 0 46) + 1)) ∧ (((((A 0 46) + 1) = (A 0 1)) → Q (some (.int (iz 1))) (Φ (mI (UA (UA A 6 x1 0) 0 46 ((A 0 46) + 1))))) ∧ (¬ (((A 0 46) + 1) = (A 0 1)) → Q (some (.int (iz 0))) (Φ (mI (UA (UA A 6 x1 0) 0 46 ((A 0 46) + 1))))))))) ∧ (¬ ((A 1 (A 0 46)) = 47) → ((((A 1 (A 0 46)) = 59) → ((((A 1 (A 0 46)) = 47) → (0 ≤ x1 ∧ x1 < 5) ∧ (Rg ((A 0 46) + 1)) ∧ (((((A 0 46) + 1) = (A 0 1)) → Q (some (.int (iz 1))) (Φ (mI (UA (UA A 6 x1 1) 0 46 ((A 0 46) + 1))))) ∧ (¬ (((A 0 46) + 1) = (A 0 1)) → Q (some (.int (iz 0))) (Φ (mI (UA (UA A 6 x1 1) 0 46 ((A 0 46) + 1))))))) ∧ (¬ ((A 1 (A 0 46)) = 47) → (0 ≤ x1 ∧ x1 < 5) ∧ (Rg ((A 0 46) + 1)) ∧ (((((A 0 46) + 1) = (A 0 1)) → Q (some (.int (iz 1))) (Φ (mI (UA (UA A 6 x1 0) 0 46 ((A 0 46) + 1))))) ∧ (¬ (((A 0 46) + 1) = (A 0 1)) → Q (some (.int (iz 0))) (Φ (mI (UA (UA A 6 x1 0) 0 46 ((A 0 46) + 1))))))))) ∧ (¬ ((A 1 (A 0 46)) = 59) → Q (some (.int (iz 0))) (Φ (mI A))))))))) ∧ (¬ ((A 0 1) ≤ (A 0 46)) → (0 ≤ (A 0 46) ∧ (A 0 46) < 160) ∧ ((((A 1 (A 0 46)) = 32) → (0 ≤ x1 ∧ x1 < 5) ∧ (((10 ≤ (A 2 x1)) → ((((A 0 46) = (A 0 1)) → Q (some (.int (iz 0))) (Φ (mI A))) ∧ (¬ ((A 0 46) = (A 0 1)) → ((((A 1 (A 0 46)) = 47) → ((((A 1 (A 0 46)) = 47) → (Rg ((A 0 46) + 1)) ∧ (((((A 0 46) + 1) = (A 0 1)) → Q (some (.int (iz 1))) (Φ (mI (UA (UA A 6 x1 1) 0 46 ((A 0 46) + 1))))) ∧ (¬ (((A 0 46) + 1) = (A 0 1)) → Q (some (.int (iz 0))) (Φ (mI (UA (UA A 6 x1 1) 0 46 ((A 0 46) + 1))))))) ∧ (¬ ((A 1 (A 0 46)) = 47) → (Rg ((A 0 46) + 1)) ∧ (((((A 0 46) + 1) = (A 0 1)) → Q (some (.int (iz 1))) (Φ (mI (UA (UA A 6 x1 0) 0 46 ((A 0 46) + 1))))) ∧ (¬ (((A 0 46) + 1) = (A 0 1)) → Q (some (.int (iz 0))) (Φ (mI (UA (UA A 6 x1 0) 0 46 ((A 0 46) + 1))))))))) ∧ (¬ ((A 1 (A 0 46)) = 47) → ((((A 1 (A 0 46)) = 59) → ((((A 1 (A 0 46)) = 47) → (Rg ((A 0 46) + 1)) ∧ (((((A 0 46) + 1) = (A 0 1)) → Q (some (.int (iz 1))) (Φ (mI (UA (UA A 6 x1 1) 0 46 ((A 0 46) + 1))))) ∧ (¬ (((A 0 46) + 1) = (A 0 1)) → Q (some (.int (iz 0))) (Φ (mI (UA (UA A 6 x1 1) 0 46 ((A 0 46) + 1))))))) ∧ (¬ ((A 1 (A 0 46)) = 47) → (Rg ((A 0 46) + 1)) ∧ (((((A 0 46) + 1) = (A 0 1)) → Q (some (.int (iz 1))) (Φ (mI (UA (UA A 6 x1 0) 0 46 ((A 0 46) + 1))))) ∧ (¬ (((A 0 46) + 1) = (A 0 1)) → Q (some (.int (iz 0))) (Φ (mI (UA (UA A 6 x1 0) 0 46 ((A 0 46) + 1))))))))) ∧ (¬ ((A 1 (A 0 46)) = 59) → Q (some (.int (iz 0))) (Φ (mI A))))))))) ∧ (¬ (10 ≤ (A 2 x1)) → (Rg ((A 0 46) + 1)) ∧ (0 ≤ (A 2 x1) ∧ (A 2 x1) ≤ 9) ∧ (0 ≤ ((A 0 46) + 1) ∧ ((A 0 46) + 1) ≤ (A 0 1)) ∧ ((A 0 1) ≤ 160) ∧ (∀ (r_1 : Int) (A_1 : Nat → Int → Int), Rg r_1 → RG A_1 → ((srOK ((UA A 0 46 ((A 0 46) + 1)) 1) ((UA A 0 46 ((A 0 46) + 1)) 0 1) ((UA A 0 46 ((A 0 46) + 1)) 0 46) → r_1 = 1 ∧ A_1 0 46 = srE ((UA A 0 46 ((A 0 46) + 1)) 1) ((UA A 0 46 ((A 0 46) + 1)) 0 1) ((UA A 0 46 ((A 0 46) + 1)) 0 46) ∧ Fr [2, 4, 5] [46] (UA A 0 46 ((A 0 46) + 1)) A_1 ∧ (∀ i, ¬ i = x1 → A_1 2 i = (UA A 0 46 ((A 0 46) + 1)) 2 i) ∧ A_1 2 x1 = (UA A 0 46 ((A 0 46) + 1)) 2 x1 + 1 ∧ (∀ i, ¬ i = 10 * x1 + (UA A 0 46 ((A 0 46) + 1)) 2 x1 → A_1 4 i = (UA A 0 46 ((A 0 46) + 1)) 4 i ∧ A_1 5 i = (UA A 0 46 ((A 0 46) + 1)) 5 i) ∧ A_1 4 (10 * x1 + (UA A 0 46 ((A 0 46) + 1)) 2 x1) = (UA A 0 46 ((A 0 46) + 1)) 1 ((UA A 0 46 ((A 0 46) + 1)) 0 46) - 97 ∧ A_1 5 (10 * x1 + (UA A 0 46 ((A 0 46) + 1)) 2 x1) = cv ((UA A 0 46 ((A 0 46) + 1)) 1) ((UA A 0 46 ((A 0 46) + 1)) 0 1) ((UA A 0 46 ((A 0 46) + 1)) 0 46 + 1)) ∧ (¬ srOK ((UA A 0 46 ((A 0 46) + 1)) 1) ((UA A 0 46 ((A 0 46) + 1)) 0 1) ((UA A 0 46 ((A 0 46) + 1)) 0 46) → r_1 = 0 ∧ A_1 0 46 = srF ((UA A 0 46 ((A 0 46) + 1)) 1) ((UA A 0 46 ((A 0 46) + 1)) 0 1) ((UA A 0 46 ((A 0 46) + 1)) 0 46) ∧ Fr [4] [46] (UA A 0 46 ((A 0 46) + 1)) A_1 ∧ ∀ i, ¬ i = 10 * x1 + (UA A 0 46 ((A 0 46) + 1)) 2 x1 → A_1 4 i = (UA A 0 46 ((A 0 46) + 1)) 4 i)) → (((r_1 = 0) → Q (some (.int (iz 0))) (Φ (mI A_1))) ∧ (¬ (r_1 = 0) → wpE (xT 131) (xev xT d) Q (22, [(0, .ref m), (1, .int (iz x1))], [], Φ (mI A_1)))))))) ∧ (¬ ((A 1 (A 0 46)) = 32) → ((((A 0 46) = (A 0 1)) → Q (some (.int (iz 0))) (Φ (mI A))) ∧ (¬ ((A 0 46) = (A 0 1)) → ((((A 1 (A 0 46)) = 47) → ((((A 1 (A 0 46)) = 47) → (0 ≤ x1 ∧ x1 < 5) ∧ (Rg ((A 0 46) + 1)) ∧ (((((A 0 46) + 1) = (A 0 1)) → Q (some (.int (iz 1))) (Φ (mI (UA (UA A 6 x1 1) 0 46 ((A 0 46) + 1))))) ∧ (¬ (((A 0 46) + 1) = (A 0 1)) → Q (some (.int (iz 0))) (Φ (mI (UA (UA A 6 x1 1) 0 46 ((A 0 46) + 1))))))) ∧ (¬ ((A 1 (A 0 46)) = 47) → (0 ≤ x1 ∧ x1 < 5) ∧ (Rg ((A 0 46) + 1)) ∧ (((((A 0 46) + 1) = (A 0 1)) → Q (some (.int (iz 1))) (Φ (mI (UA (UA A 6 x1 0) 0 46 ((A 0 46) + 1))))) ∧ (¬ (((A 0 46) + 1) = (A 0 1)) → Q (some (.int (iz 0))) (Φ (mI (UA (UA A 6 x1 0) 0 46 ((A 0 46) + 1))))))))) ∧ (¬ ((A 1 (A 0 46)) = 47) → ((((A 1 (A 0 46)) = 59) → ((((A 1 (A 0 46)) = 47) → (0 ≤ x1 ∧ x1 < 5) ∧ (Rg ((A 0 46) + 1)) ∧ (((((A 0 46) + 1) = (A 0 1)) → Q (some (.int (iz 1))) (Φ (mI (UA (UA A 6 x1 1) 0 46 ((A 0 46) + 1))))) ∧ (¬ (((A 0 46) + 1) = (A 0 1)) → Q (some (.int (iz 0))) (Φ (mI (UA (UA A 6 x1 1) 0 46 ((A 0 46) + 1))))))) ∧ (¬ ((A 1 (A 0 46)) = 47) → (0 ≤ x1 ∧ x1 < 5) ∧ (Rg ((A 0 46) + 1)) ∧ (((((A 0 46) + 1) = (A 0 1)) → Q (some (.int (iz 1))) (Φ (mI (UA (UA A 6 x1 0) 0 46 ((A 0 46) + 1))))) ∧ (¬ (((A 0 46) + 1) = (A 0 1)) → Q (some (.int (iz 0))) (Φ (mI (UA (UA A 6 x1 0) 0 46 ((A 0 46) + 1))))))))) ∧ (¬ ((A 1 (A 0 46)) = 59) → Q (some (.int (iz 0))) (Φ (mI A))))))))))))) : wpE (xT 131) (xev xT d) Q (22, [(0, .ref m), (1, .int (iz x1))], [], Φ (mI A)) := by
  refine p_ald (cct c131_22 rfl) rfl ?_
  refine n_geti hΦ (v := A 0 46) (cc3 c131_23) (ji := 46) rfl rfl ?_
  refine p_ald (cc3 c131_26) rfl ?_
  refine n_geti hΦ (v := A 0 1) (cc3 c131_27) (ji := 1) rfl rfl ?_
  refine i_icmp (c' := (A 0 1) ≤ (A 0 46)) (cc3 c131_30) (iz_le (hR 0 1) (hR 0 46)) (fun c => ?_) (fun c => ?_)
  · have h := h.1 c
    refine p_ald (cct c131_78 rfl) rfl ?_
    refine n_geti hΦ (v := A 0 46) (cc3 c131_79) (ji := 46) rfl rfl ?_
    refine p_ald (cc3 c131_82) rfl ?_
    refine n_geti hΦ (v := A 0 1) (cc3 c131_83) (ji := 1) rfl rfl ?_
    refine i_icmp (c' := (A 0 46) = (A 0 1)) (cc3 c131_86) (iz_inj (hR 0 46) (hR 0 1)) (fun c => ?_) (fun c => ?_)
    · have h := h.1 c
      refine p_lc (ls' := []) c131_117 rfl rfl ?_
      refine i_push (n := 0) (cct c131_117 rfl) zl_0 ?_
      exact i_ri (cc3 c131_118) (by decide) h
    · have h := h.2 c
      refine p_ald (cc3 c131_89) rfl ?_
      refine pm_getp hΦ (cc3 c131_90) (c := 1) rfl (by decide) ?_
      refine p_ald (cc3 c131_93) rfl ?_
      refine n_geti hΦ (v := A 0 46) (cc3 c131_94) (ji := 46) rfl rfl ?_
      obtain ⟨g1, h⟩ := h
      refine n_aldi hΦ (c := 1) (n := 160) (ni := 160) (cc3 c131_97) (by decide) rfl rfl rfl (by decide) g1 (v := A 1 (A 0 46)) rfl ?_
      refine i_push (n := 47) (cc3 c131_98) zl_47 ?_
      refine i_icmp (c' := (A 1 (A 0 46)) = 47) (cc3 c131_100) (iz_inj (hR 1 (A 0 46)) (by decide)) (fun c => ?_) (fun c => ?_)
      · have h := h.1 c
        refine p_ald (cct c131_119 rfl) rfl ?_
        refine pm_getp hΦ (cc3 c131_120) (c := 6) rfl (by decide) ?_
        refine p_ild (cc3 c131_123) rfl ?_
        refine p_ald (cc3 c131_124) rfl ?_
        refine pm_getp hΦ (cc3 c131_125) (c := 1) rfl (by decide) ?_
        refine p_ald (cc3 c131_128) rfl ?_
        refine n_geti hΦ (v := A 0 46) (cc3 c131_129) (ji := 46) rfl rfl ?_
        refine n_aldi hΦ (c := 1) (n := 160) (ni := 160) (cc3 c131_132) (by decide) rfl rfl rfl (by decide) g1 (v := A 1 (A 0 46)) rfl ?_
        refine i_push (n := 47) (cc3 c131_133) zl_47 ?_
        refine i_icmp (c' := (A 1 (A 0 46)) = 47) (cc3 c131_135) (iz_inj (hR 1 (A 0 46)) (by decide)) (fun c => ?_) (fun c => ?_)
        · have h := h.1 c
          refine i_push (n := 1) (cc3 c131_138) zl_1 ?_
          refine p_goto (cc3 c131_139) ?_
          refine p_lc (ls' := [(0, .ref m)]) c131_143 rfl rfl ?_
          obtain ⟨g2, h⟩ := h
          refine id (α := Rg 1 → _) (fun _ => ?_) (by decide); refine n_asti hΦ (c := 6) (n := 5) (ni := 5) (hv := (vnarB (by decide))) (cct c131_143 rfl) (by decide) rfl rfl rfl (by decide) g2 ?_
          refine p_ald (cc3 c131_144) rfl ?_
          refine p_dup (cc3 c131_145) rfl ?_
          refine n_geti hΦ (v := A 0 46) (cc3 c131_146) (ji := 46) rfl rfl ?_
          refine i_push (n := 1) (cc3 c131_149) zl_1 ?_
          obtain ⟨g3, h⟩ := h
          refine (fun _ : Rg ((A 0 46) + 1) => i_add (cc3 c131_150) ?_) g3
          refine (fun _ : Rg ((A 0 46) + 1) => n_puti hΦ (cc3 c131_151) (ji := 46) rfl ?_) g3
          refine p_ald (cc3 c131_154) rfl ?_
          refine n_geti hΦ (v := (A 0 46) + 1) (cc3 c131_155) (ji := 46) rfl rfl ?_
          refine p_ald (cc3 c131_158) rfl ?_
          refine n_geti hΦ (v := A 0 1) (cc3 c131_159) (ji := 1) rfl rfl ?_
          refine i_icmp (c' := ((A 0 46) + 1) = (A 0 1)) (cc3 c131_162) (iz_inj g3 (hR 0 1)) (fun c => ?_) (fun c => ?_)
          · have h := h.1 c
            refine i_push (n := 1) (cc3 c131_165) zl_1 ?_
            refine p_goto (cc3 c131_166) ?_
            refine p_lc (ls' := []) c131_170 rfl rfl ?_
            exact i_ri (cct c131_170 rfl) (by decide) h
          · have h := h.2 c
            refine i_push (n := 0) (cc3 c131_169) zl_0 ?_
            refine p_lc (ls' := []) c131_170 rfl rfl ?_
            exact i_ri (cct c131_170 rfl) (by decide) h
        · have h := h.2 c
          refine i_push (n := 0) (cc3 c131_142) zl_0 ?_
          refine p_lc (ls' := [(0, .ref m)]) c131_143 rfl rfl ?_
          obtain ⟨g2, h⟩ := h
          refine id (α := Rg 0 → _) (fun _ => ?_) (by decide); refine n_asti hΦ (c := 6) (n := 5) (ni := 5) (hv := (vnarB (by decide))) (cct c131_143 rfl) (by decide) rfl rfl rfl (by decide) g2 ?_
          refine p_ald (cc3 c131_144) rfl ?_
          refine p_dup (cc3 c131_145) rfl ?_
          refine n_geti hΦ (v := A 0 46) (cc3 c131_146) (ji := 46) rfl rfl ?_
          refine i_push (n := 1) (cc3 c131_149) zl_1 ?_
          obtain ⟨g3, h⟩ := h
          refine (fun _ : Rg ((A 0 46) + 1) => i_add (cc3 c131_150) ?_) g3
          refine (fun _ : Rg ((A 0 46) + 1) => n_puti hΦ (cc3 c131_151) (ji := 46) rfl ?_) g3
          refine p_ald (cc3 c131_154) rfl ?_
          refine n_geti hΦ (v := (A 0 46) + 1) (cc3 c131_155) (ji := 46) rfl rfl ?_
          refine p_ald (cc3 c131_158) rfl ?_
          refine n_geti hΦ (v := A 0 1) (cc3 c131_159) (ji := 1) rfl rfl ?_
          refine i_icmp (c' := ((A 0 46) + 1) = (A 0 1)) (cc3 c131_162) (iz_inj g3 (hR 0 1)) (fun c => ?_) (fun c => ?_)
          · have h := h.1 c
            refine i_push (n := 1) (cc3 c131_165) zl_1 ?_
            refine p_goto (cc3 c131_166) ?_
            refine p_lc (ls' := []) c131_170 rfl rfl ?_
            exact i_ri (cct c131_170 rfl) (by decide) h
          · have h := h.2 c
            refine i_push (n := 0) (cc3 c131_169) zl_0 ?_
            refine p_lc (ls' := []) c131_170 rfl rfl ?_
            exact i_ri (cct c131_170 rfl) (by decide) h
      · have h := h.2 c
        refine p_ald (cc3 c131_103) rfl ?_
        refine pm_getp hΦ (cc3 c131_104) (c := 1) rfl (by decide) ?_
        refine p_ald (cc3 c131_107) rfl ?_
        refine n_geti hΦ (v := A 0 46) (cc3 c131_108) (ji := 46) rfl rfl ?_
        refine n_aldi hΦ (c := 1) (n := 160) (ni := 160) (cc3 c131_111) (by decide) rfl rfl rfl (by decide) g1 (v := A 1 (A 0 46)) rfl ?_
        refine i_push (n := 59) (cc3 c131_112) zl_59 ?_
        refine i_icmp (c' := (A 1 (A 0 46)) = 59) (cc3 c131_114) (iz_inj (hR 1 (A 0 46)) (by decide)) (fun c => ?_) (fun c => ?_)
        · have h := h.1 c
          refine p_ald (cct c131_119 rfl) rfl ?_
          refine pm_getp hΦ (cc3 c131_120) (c := 6) rfl (by decide) ?_
          refine p_ild (cc3 c131_123) rfl ?_
          refine p_ald (cc3 c131_124) rfl ?_
          refine pm_getp hΦ (cc3 c131_125) (c := 1) rfl (by decide) ?_
          refine p_ald (cc3 c131_128) rfl ?_
          refine n_geti hΦ (v := A 0 46) (cc3 c131_129) (ji := 46) rfl rfl ?_
          refine n_aldi hΦ (c := 1) (n := 160) (ni := 160) (cc3 c131_132) (by decide) rfl rfl rfl (by decide) g1 (v := A 1 (A 0 46)) rfl ?_
          refine i_push (n := 47) (cc3 c131_133) zl_47 ?_
          refine i_icmp (c' := (A 1 (A 0 46)) = 47) (cc3 c131_135) (iz_inj (hR 1 (A 0 46)) (by decide)) (fun c => ?_) (fun c => ?_)
          · have h := h.1 c
            refine i_push (n := 1) (cc3 c131_138) zl_1 ?_
            refine p_goto (cc3 c131_139) ?_
            refine p_lc (ls' := [(0, .ref m)]) c131_143 rfl rfl ?_
            obtain ⟨g2, h⟩ := h
            refine id (α := Rg 1 → _) (fun _ => ?_) (by decide); refine n_asti hΦ (c := 6) (n := 5) (ni := 5) (hv := (vnarB (by decide))) (cct c131_143 rfl) (by decide) rfl rfl rfl (by decide) g2 ?_
            refine p_ald (cc3 c131_144) rfl ?_
            refine p_dup (cc3 c131_145) rfl ?_
            refine n_geti hΦ (v := A 0 46) (cc3 c131_146) (ji := 46) rfl rfl ?_
            refine i_push (n := 1) (cc3 c131_149) zl_1 ?_
            obtain ⟨g3, h⟩ := h
            refine (fun _ : Rg ((A 0 46) + 1) => i_add (cc3 c131_150) ?_) g3
            refine (fun _ : Rg ((A 0 46) + 1) => n_puti hΦ (cc3 c131_151) (ji := 46) rfl ?_) g3
            refine p_ald (cc3 c131_154) rfl ?_
            refine n_geti hΦ (v := (A 0 46) + 1) (cc3 c131_155) (ji := 46) rfl rfl ?_
            refine p_ald (cc3 c131_158) rfl ?_
            refine n_geti hΦ (v := A 0 1) (cc3 c131_159) (ji := 1) rfl rfl ?_
            refine i_icmp (c' := ((A 0 46) + 1) = (A 0 1)) (cc3 c131_162) (iz_inj g3 (hR 0 1)) (fun c => ?_) (fun c => ?_)
            · have h := h.1 c
              refine i_push (n := 1) (cc3 c131_165) zl_1 ?_
              refine p_goto (cc3 c131_166) ?_
              refine p_lc (ls' := []) c131_170 rfl rfl ?_
              exact i_ri (cct c131_170 rfl) (by decide) h
            · have h := h.2 c
              refine i_push (n := 0) (cc3 c131_169) zl_0 ?_
              refine p_lc (ls' := []) c131_170 rfl rfl ?_
              exact i_ri (cct c131_170 rfl) (by decide) h
          · have h := h.2 c
            refine i_push (n := 0) (cc3 c131_142) zl_0 ?_
            refine p_lc (ls' := [(0, .ref m)]) c131_143 rfl rfl ?_
            obtain ⟨g2, h⟩ := h
            refine id (α := Rg 0 → _) (fun _ => ?_) (by decide); refine n_asti hΦ (c := 6) (n := 5) (ni := 5) (hv := (vnarB (by decide))) (cct c131_143 rfl) (by decide) rfl rfl rfl (by decide) g2 ?_
            refine p_ald (cc3 c131_144) rfl ?_
            refine p_dup (cc3 c131_145) rfl ?_
            refine n_geti hΦ (v := A 0 46) (cc3 c131_146) (ji := 46) rfl rfl ?_
            refine i_push (n := 1) (cc3 c131_149) zl_1 ?_
            obtain ⟨g3, h⟩ := h
            refine (fun _ : Rg ((A 0 46) + 1) => i_add (cc3 c131_150) ?_) g3
            refine (fun _ : Rg ((A 0 46) + 1) => n_puti hΦ (cc3 c131_151) (ji := 46) rfl ?_) g3
            refine p_ald (cc3 c131_154) rfl ?_
            refine n_geti hΦ (v := (A 0 46) + 1) (cc3 c131_155) (ji := 46) rfl rfl ?_
            refine p_ald (cc3 c131_158) rfl ?_
            refine n_geti hΦ (v := A 0 1) (cc3 c131_159) (ji := 1) rfl rfl ?_
            refine i_icmp (c' := ((A 0 46) + 1) = (A 0 1)) (cc3 c131_162) (iz_inj g3 (hR 0 1)) (fun c => ?_) (fun c => ?_)
            · have h := h.1 c
              refine i_push (n := 1) (cc3 c131_165) zl_1 ?_
              refine p_goto (cc3 c131_166) ?_
              refine p_lc (ls' := []) c131_170 rfl rfl ?_
              exact i_ri (cct c131_170 rfl) (by decide) h
            · have h := h.2 c
              refine i_push (n := 0) (cc3 c131_169) zl_0 ?_
              refine p_lc (ls' := []) c131_170 rfl rfl ?_
              exact i_ri (cct c131_170 rfl) (by decide) h
        · have h := h.2 c
          refine p_lc (ls' := []) c131_117 rfl rfl ?_
          refine i_push (n := 0) (cct c131_117 rfl) zl_0 ?_
          exact i_ri (cc3 c131_118) (by decide) h
  · have h := h.2 c
    refine p_ald (cc3 c131_33) rfl ?_
    refine pm_getp hΦ (cc3 c131_34) (c := 1) rfl (by decide) ?_
    refine p_ald (cc3 c131_37) rfl ?_
    refine n_geti hΦ (v := A 0 46) (cc3 c131_38) (ji := 46) rfl rfl ?_
    obtain ⟨g1, h⟩ := h
    refine n_aldi hΦ (c := 1) (n := 160) (ni := 160) (cc3 c131_41) (by decide) rfl rfl rfl (by decide) g1 (v := A 1 (A 0 46)) rfl ?_
    refine i_push (n := 32) (cc3 c131_42) zl_32 ?_
    refine i_icmp (c' := (A 1 (A 0 46)) = 32) (cc3 c131_44) (iz_inj (hR 1 (A 0 46)) (by decide)) (fun c => ?_) (fun c => ?_)
    · have h := h.1 c
      refine p_ald (cc3 c131_47) rfl ?_
      refine pm_getp hΦ (cc3 c131_48) (c := 2) rfl (by decide) ?_
      refine p_ild (cc3 c131_51) rfl ?_
      obtain ⟨g2, h⟩ := h
      refine n_aldi hΦ (c := 2) (n := 5) (ni := 5) (cc3 c131_52) (by decide) rfl rfl rfl (by decide) g2 (v := A 2 x1) rfl ?_
      refine i_push (n := 10) (cc3 c131_53) zl_10 ?_
      refine i_icmp (c' := 10 ≤ (A 2 x1)) (cc3 c131_55) (iz_le (by decide) (hR 2 x1)) (fun c => ?_) (fun c => ?_)
      · have h := h.1 c
        refine p_ald (cct c131_78 rfl) rfl ?_
        refine n_geti hΦ (v := A 0 46) (cc3 c131_79) (ji := 46) rfl rfl ?_
        refine p_ald (cc3 c131_82) rfl ?_
        refine n_geti hΦ (v := A 0 1) (cc3 c131_83) (ji := 1) rfl rfl ?_
        refine i_icmp (c' := (A 0 46) = (A 0 1)) (cc3 c131_86) (iz_inj (hR 0 46) (hR 0 1)) (fun c => ?_) (fun c => ?_)
        · have h := h.1 c
          refine p_lc (ls' := []) c131_117 rfl rfl ?_
          refine i_push (n := 0) (cct c131_117 rfl) zl_0 ?_
          exact i_ri (cc3 c131_118) (by decide) h
        · have h := h.2 c
          refine p_ald (cc3 c131_89) rfl ?_
          refine pm_getp hΦ (cc3 c131_90) (c := 1) rfl (by decide) ?_
          refine p_ald (cc3 c131_93) rfl ?_
          refine n_geti hΦ (v := A 0 46) (cc3 c131_94) (ji := 46) rfl rfl ?_
          refine n_aldi hΦ (c := 1) (n := 160) (ni := 160) (cc3 c131_97) (by decide) rfl rfl rfl (by decide) g1 (v := A 1 (A 0 46)) rfl ?_
          refine i_push (n := 47) (cc3 c131_98) zl_47 ?_
          refine i_icmp (c' := (A 1 (A 0 46)) = 47) (cc3 c131_100) (iz_inj (hR 1 (A 0 46)) (by decide)) (fun c => ?_) (fun c => ?_)
          · have h := h.1 c
            refine p_ald (cct c131_119 rfl) rfl ?_
            refine pm_getp hΦ (cc3 c131_120) (c := 6) rfl (by decide) ?_
            refine p_ild (cc3 c131_123) rfl ?_
            refine p_ald (cc3 c131_124) rfl ?_
            refine pm_getp hΦ (cc3 c131_125) (c := 1) rfl (by decide) ?_
            refine p_ald (cc3 c131_128) rfl ?_
            refine n_geti hΦ (v := A 0 46) (cc3 c131_129) (ji := 46) rfl rfl ?_
            refine n_aldi hΦ (c := 1) (n := 160) (ni := 160) (cc3 c131_132) (by decide) rfl rfl rfl (by decide) g1 (v := A 1 (A 0 46)) rfl ?_
            refine i_push (n := 47) (cc3 c131_133) zl_47 ?_
            refine i_icmp (c' := (A 1 (A 0 46)) = 47) (cc3 c131_135) (iz_inj (hR 1 (A 0 46)) (by decide)) (fun c => ?_) (fun c => ?_)
            · have h := h.1 c
              refine i_push (n := 1) (cc3 c131_138) zl_1 ?_
              refine p_goto (cc3 c131_139) ?_
              refine p_lc (ls' := [(0, .ref m)]) c131_143 rfl rfl ?_
              refine id (α := Rg 1 → _) (fun _ => ?_) (by decide); refine n_asti hΦ (c := 6) (n := 5) (ni := 5) (hv := (vnarB (by decide))) (cct c131_143 rfl) (by decide) rfl rfl rfl (by decide) g2 ?_
              refine p_ald (cc3 c131_144) rfl ?_
              refine p_dup (cc3 c131_145) rfl ?_
              refine n_geti hΦ (v := A 0 46) (cc3 c131_146) (ji := 46) rfl rfl ?_
              refine i_push (n := 1) (cc3 c131_149) zl_1 ?_
              obtain ⟨g3, h⟩ := h
              refine (fun _ : Rg ((A 0 46) + 1) => i_add (cc3 c131_150) ?_) g3
              refine (fun _ : Rg ((A 0 46) + 1) => n_puti hΦ (cc3 c131_151) (ji := 46) rfl ?_) g3
              refine p_ald (cc3 c131_154) rfl ?_
              refine n_geti hΦ (v := (A 0 46) + 1) (cc3 c131_155) (ji := 46) rfl rfl ?_
              refine p_ald (cc3 c131_158) rfl ?_
              refine n_geti hΦ (v := A 0 1) (cc3 c131_159) (ji := 1) rfl rfl ?_
              refine i_icmp (c' := ((A 0 46) + 1) = (A 0 1)) (cc3 c131_162) (iz_inj g3 (hR 0 1)) (fun c => ?_) (fun c => ?_)
              · have h := h.1 c
                refine i_push (n := 1) (cc3 c131_165) zl_1 ?_
                refine p_goto (cc3 c131_166) ?_
                refine p_lc (ls' := []) c131_170 rfl rfl ?_
                exact i_ri (cct c131_170 rfl) (by decide) h
              · have h := h.2 c
                refine i_push (n := 0) (cc3 c131_169) zl_0 ?_
                refine p_lc (ls' := []) c131_170 rfl rfl ?_
                exact i_ri (cct c131_170 rfl) (by decide) h
            · have h := h.2 c
              refine i_push (n := 0) (cc3 c131_142) zl_0 ?_
              refine p_lc (ls' := [(0, .ref m)]) c131_143 rfl rfl ?_
              refine id (α := Rg 0 → _) (fun _ => ?_) (by decide); refine n_asti hΦ (c := 6) (n := 5) (ni := 5) (hv := (vnarB (by decide))) (cct c131_143 rfl) (by decide) rfl rfl rfl (by decide) g2 ?_
              refine p_ald (cc3 c131_144) rfl ?_
              refine p_dup (cc3 c131_145) rfl ?_
              refine n_geti hΦ (v := A 0 46) (cc3 c131_146) (ji := 46) rfl rfl ?_
              refine i_push (n := 1) (cc3 c131_149) zl_1 ?_
              obtain ⟨g3, h⟩ := h
              refine (fun _ : Rg ((A 0 46) + 1) => i_add (cc3 c131_150) ?_) g3
              refine (fun _ : Rg ((A 0 46) + 1) => n_puti hΦ (cc3 c131_151) (ji := 46) rfl ?_) g3
              refine p_ald (cc3 c131_154) rfl ?_
              refine n_geti hΦ (v := (A 0 46) + 1) (cc3 c131_155) (ji := 46) rfl rfl ?_
              refine p_ald (cc3 c131_158) rfl ?_
              refine n_geti hΦ (v := A 0 1) (cc3 c131_159) (ji := 1) rfl rfl ?_
              refine i_icmp (c' := ((A 0 46) + 1) = (A 0 1)) (cc3 c131_162) (iz_inj g3 (hR 0 1)) (fun c => ?_) (fun c => ?_)
              · have h := h.1 c
                refine i_push (n := 1) (cc3 c131_165) zl_1 ?_
                refine p_goto (cc3 c131_166) ?_
                refine p_lc (ls' := []) c131_170 rfl rfl ?_
                exact i_ri (cct c131_170 rfl) (by decide) h
              · have h := h.2 c
                refine i_push (n := 0) (cc3 c131_169) zl_0 ?_
                refine p_lc (ls' := []) c131_170 rfl rfl ?_
                exact i_ri (cct c131_170 rfl) (by decide) h
          · have h := h.2 c
            refine p_ald (cc3 c131_103) rfl ?_
            refine pm_getp hΦ (cc3 c131_104) (c := 1) rfl (by decide) ?_
            refine p_ald (cc3 c131_107) rfl ?_
            refine n_geti hΦ (v := A 0 46) (cc3 c131_108) (ji := 46) rfl rfl ?_
            refine n_aldi hΦ (c := 1) (n := 160) (ni := 160) (cc3 c131_111) (by decide) rfl rfl rfl (by decide) g1 (v := A 1 (A 0 46)) rfl ?_
            refine i_push (n := 59) (cc3 c131_112) zl_59 ?_
            refine i_icmp (c' := (A 1 (A 0 46)) = 59) (cc3 c131_114) (iz_inj (hR 1 (A 0 46)) (by decide)) (fun c => ?_) (fun c => ?_)
            · have h := h.1 c
              refine p_ald (cct c131_119 rfl) rfl ?_
              refine pm_getp hΦ (cc3 c131_120) (c := 6) rfl (by decide) ?_
              refine p_ild (cc3 c131_123) rfl ?_
              refine p_ald (cc3 c131_124) rfl ?_
              refine pm_getp hΦ (cc3 c131_125) (c := 1) rfl (by decide) ?_
              refine p_ald (cc3 c131_128) rfl ?_
              refine n_geti hΦ (v := A 0 46) (cc3 c131_129) (ji := 46) rfl rfl ?_
              refine n_aldi hΦ (c := 1) (n := 160) (ni := 160) (cc3 c131_132) (by decide) rfl rfl rfl (by decide) g1 (v := A 1 (A 0 46)) rfl ?_
              refine i_push (n := 47) (cc3 c131_133) zl_47 ?_
              refine i_icmp (c' := (A 1 (A 0 46)) = 47) (cc3 c131_135) (iz_inj (hR 1 (A 0 46)) (by decide)) (fun c => ?_) (fun c => ?_)
              · have h := h.1 c
                refine i_push (n := 1) (cc3 c131_138) zl_1 ?_
                refine p_goto (cc3 c131_139) ?_
                refine p_lc (ls' := [(0, .ref m)]) c131_143 rfl rfl ?_
                refine id (α := Rg 1 → _) (fun _ => ?_) (by decide); refine n_asti hΦ (c := 6) (n := 5) (ni := 5) (hv := (vnarB (by decide))) (cct c131_143 rfl) (by decide) rfl rfl rfl (by decide) g2 ?_
                refine p_ald (cc3 c131_144) rfl ?_
                refine p_dup (cc3 c131_145) rfl ?_
                refine n_geti hΦ (v := A 0 46) (cc3 c131_146) (ji := 46) rfl rfl ?_
                refine i_push (n := 1) (cc3 c131_149) zl_1 ?_
                obtain ⟨g3, h⟩ := h
                refine (fun _ : Rg ((A 0 46) + 1) => i_add (cc3 c131_150) ?_) g3
                refine (fun _ : Rg ((A 0 46) + 1) => n_puti hΦ (cc3 c131_151) (ji := 46) rfl ?_) g3
                refine p_ald (cc3 c131_154) rfl ?_
                refine n_geti hΦ (v := (A 0 46) + 1) (cc3 c131_155) (ji := 46) rfl rfl ?_
                refine p_ald (cc3 c131_158) rfl ?_
                refine n_geti hΦ (v := A 0 1) (cc3 c131_159) (ji := 1) rfl rfl ?_
                refine i_icmp (c' := ((A 0 46) + 1) = (A 0 1)) (cc3 c131_162) (iz_inj g3 (hR 0 1)) (fun c => ?_) (fun c => ?_)
                · have h := h.1 c
                  refine i_push (n := 1) (cc3 c131_165) zl_1 ?_
                  refine p_goto (cc3 c131_166) ?_
                  refine p_lc (ls' := []) c131_170 rfl rfl ?_
                  exact i_ri (cct c131_170 rfl) (by decide) h
                · have h := h.2 c
                  refine i_push (n := 0) (cc3 c131_169) zl_0 ?_
                  refine p_lc (ls' := []) c131_170 rfl rfl ?_
                  exact i_ri (cct c131_170 rfl) (by decide) h
              · have h := h.2 c
                refine i_push (n := 0) (cc3 c131_142) zl_0 ?_
                refine p_lc (ls' := [(0, .ref m)]) c131_143 rfl rfl ?_
                refine id (α := Rg 0 → _) (fun _ => ?_) (by decide); refine n_asti hΦ (c := 6) (n := 5) (ni := 5) (hv := (vnarB (by decide))) (cct c131_143 rfl) (by decide) rfl rfl rfl (by decide) g2 ?_
                refine p_ald (cc3 c131_144) rfl ?_
                refine p_dup (cc3 c131_145) rfl ?_
                refine n_geti hΦ (v := A 0 46) (cc3 c131_146) (ji := 46) rfl rfl ?_
                refine i_push (n := 1) (cc3 c131_149) zl_1 ?_
                obtain ⟨g3, h⟩ := h
                refine (fun _ : Rg ((A 0 46) + 1) => i_add (cc3 c131_150) ?_) g3
                refine (fun _ : Rg ((A 0 46) + 1) => n_puti hΦ (cc3 c131_151) (ji := 46) rfl ?_) g3
                refine p_ald (cc3 c131_154) rfl ?_
                refine n_geti hΦ (v := (A 0 46) + 1) (cc3 c131_155) (ji := 46) rfl rfl ?_
                refine p_ald (cc3 c131_158) rfl ?_
                refine n_geti hΦ (v := A 0 1) (cc3 c131_159) (ji := 1) rfl rfl ?_
                refine i_icmp (c' := ((A 0 46) + 1) = (A 0 1)) (cc3 c131_162) (iz_inj g3 (hR 0 1)) (fun c => ?_) (fun c => ?_)
                · have h := h.1 c
                  refine i_push (n := 1) (cc3 c131_165) zl_1 ?_
                  refine p_goto (cc3 c131_166) ?_
                  refine p_lc (ls' := []) c131_170 rfl rfl ?_
                  exact i_ri (cct c131_170 rfl) (by decide) h
                · have h := h.2 c
                  refine i_push (n := 0) (cc3 c131_169) zl_0 ?_
                  refine p_lc (ls' := []) c131_170 rfl rfl ?_
                  exact i_ri (cct c131_170 rfl) (by decide) h
            · have h := h.2 c
              refine p_lc (ls' := []) c131_117 rfl rfl ?_
              refine i_push (n := 0) (cct c131_117 rfl) zl_0 ?_
              exact i_ri (cc3 c131_118) (by decide) h
      · have h := h.2 c
        refine p_ald (cc3 c131_58) rfl ?_
        refine p_dup (cc3 c131_59) rfl ?_
        refine n_geti hΦ (v := A 0 46) (cc3 c131_60) (ji := 46) rfl rfl ?_
        refine i_push (n := 1) (cc3 c131_63) zl_1 ?_
        obtain ⟨g3, h⟩ := h
        refine (fun _ : Rg ((A 0 46) + 1) => i_add (cc3 c131_64) ?_) g3
        refine (fun _ : Rg ((A 0 46) + 1) => n_puti hΦ (cc3 c131_65) (ji := 46) rfl ?_) g3
        refine p_ald (cc3 c131_68) rfl ?_
        refine p_ild (cc3 c131_69) rfl ?_
        obtain ⟨g4, h⟩ := h
        obtain ⟨g5, h⟩ := h
        obtain ⟨g6, h⟩ := h
        obtain ⟨r_1, A_1, he, hr_1, hR_1, hp_1⟩ := S132 (A := UA A 0 46 ((A 0 46) + 1)) (Nat.le_trans (by decide) hd) hΦ (rg_UA hR g3) rr ⟨g2, g4, g5, g6⟩
        have h := h r_1 A_1 hr_1 hR_1 hp_1
        refine p_callV (cc3 c131_70) (Nat.le_of_ble_eq_true rfl) rfl rfl (Nat.le_of_ble_eq_true rfl) (ml_kd hΦ) he ?_
        refine i_if (c' := r_1 = 0) (cc3 c131_73) (c_eq0 hr_1) (fun c => ?_) (fun c => ?_)
        · have h := h.1 c
          refine i_push (n := 0) (cc3 c131_76) zl_0 ?_
          exact i_ri (cc3 c131_77) (by decide) h
        · have h := h.2 c
          exact h
    · have h := h.2 c
      refine p_ald (cct c131_78 rfl) rfl ?_
      refine n_geti hΦ (v := A 0 46) (cc3 c131_79) (ji := 46) rfl rfl ?_
      refine p_ald (cc3 c131_82) rfl ?_
      refine n_geti hΦ (v := A 0 1) (cc3 c131_83) (ji := 1) rfl rfl ?_
      refine i_icmp (c' := (A 0 46) = (A 0 1)) (cc3 c131_86) (iz_inj (hR 0 46) (hR 0 1)) (fun c => ?_) (fun c => ?_)
      · have h := h.1 c
        refine p_lc (ls' := []) c131_117 rfl rfl ?_
        refine i_push (n := 0) (cct c131_117 rfl) zl_0 ?_
        exact i_ri (cc3 c131_118) (by decide) h
      · have h := h.2 c
        refine p_ald (cc3 c131_89) rfl ?_
        refine pm_getp hΦ (cc3 c131_90) (c := 1) rfl (by decide) ?_
        refine p_ald (cc3 c131_93) rfl ?_
        refine n_geti hΦ (v := A 0 46) (cc3 c131_94) (ji := 46) rfl rfl ?_
        refine n_aldi hΦ (c := 1) (n := 160) (ni := 160) (cc3 c131_97) (by decide) rfl rfl rfl (by decide) g1 (v := A 1 (A 0 46)) rfl ?_
        refine i_push (n := 47) (cc3 c131_98) zl_47 ?_
        refine i_icmp (c' := (A 1 (A 0 46)) = 47) (cc3 c131_100) (iz_inj (hR 1 (A 0 46)) (by decide)) (fun c => ?_) (fun c => ?_)
        · have h := h.1 c
          refine p_ald (cct c131_119 rfl) rfl ?_
          refine pm_getp hΦ (cc3 c131_120) (c := 6) rfl (by decide) ?_
          refine p_ild (cc3 c131_123) rfl ?_
          refine p_ald (cc3 c131_124) rfl ?_
          refine pm_getp hΦ (cc3 c131_125) (c := 1) rfl (by decide) ?_
          refine p_ald (cc3 c131_128) rfl ?_
          refine n_geti hΦ (v := A 0 46) (cc3 c131_129) (ji := 46) rfl rfl ?_
          refine n_aldi hΦ (c := 1) (n := 160) (ni := 160) (cc3 c131_132) (by decide) rfl rfl rfl (by decide) g1 (v := A 1 (A 0 46)) rfl ?_
          refine i_push (n := 47) (cc3 c131_133) zl_47 ?_
          refine i_icmp (c' := (A 1 (A 0 46)) = 47) (cc3 c131_135) (iz_inj (hR 1 (A 0 46)) (by decide)) (fun c => ?_) (fun c => ?_)
          · have h := h.1 c
            refine i_push (n := 1) (cc3 c131_138) zl_1 ?_
            refine p_goto (cc3 c131_139) ?_
            refine p_lc (ls' := [(0, .ref m)]) c131_143 rfl rfl ?_
            obtain ⟨g2, h⟩ := h
            refine id (α := Rg 1 → _) (fun _ => ?_) (by decide); refine n_asti hΦ (c := 6) (n := 5) (ni := 5) (hv := (vnarB (by decide))) (cct c131_143 rfl) (by decide) rfl rfl rfl (by decide) g2 ?_
            refine p_ald (cc3 c131_144) rfl ?_
            refine p_dup (cc3 c131_145) rfl ?_
            refine n_geti hΦ (v := A 0 46) (cc3 c131_146) (ji := 46) rfl rfl ?_
            refine i_push (n := 1) (cc3 c131_149) zl_1 ?_
            obtain ⟨g3, h⟩ := h
            refine (fun _ : Rg ((A 0 46) + 1) => i_add (cc3 c131_150) ?_) g3
            refine (fun _ : Rg ((A 0 46) + 1) => n_puti hΦ (cc3 c131_151) (ji := 46) rfl ?_) g3
            refine p_ald (cc3 c131_154) rfl ?_
            refine n_geti hΦ (v := (A 0 46) + 1) (cc3 c131_155) (ji := 46) rfl rfl ?_
            refine p_ald (cc3 c131_158) rfl ?_
            refine n_geti hΦ (v := A 0 1) (cc3 c131_159) (ji := 1) rfl rfl ?_
            refine i_icmp (c' := ((A 0 46) + 1) = (A 0 1)) (cc3 c131_162) (iz_inj g3 (hR 0 1)) (fun c => ?_) (fun c => ?_)
            · have h := h.1 c
              refine i_push (n := 1) (cc3 c131_165) zl_1 ?_
              refine p_goto (cc3 c131_166) ?_
              refine p_lc (ls' := []) c131_170 rfl rfl ?_
              exact i_ri (cct c131_170 rfl) (by decide) h
            · have h := h.2 c
              refine i_push (n := 0) (cc3 c131_169) zl_0 ?_
              refine p_lc (ls' := []) c131_170 rfl rfl ?_
              exact i_ri (cct c131_170 rfl) (by decide) h
          · have h := h.2 c
            refine i_push (n := 0) (cc3 c131_142) zl_0 ?_
            refine p_lc (ls' := [(0, .ref m)]) c131_143 rfl rfl ?_
            obtain ⟨g2, h⟩ := h
            refine id (α := Rg 0 → _) (fun _ => ?_) (by decide); refine n_asti hΦ (c := 6) (n := 5) (ni := 5) (hv := (vnarB (by decide))) (cct c131_143 rfl) (by decide) rfl rfl rfl (by decide) g2 ?_
            refine p_ald (cc3 c131_144) rfl ?_
            refine p_dup (cc3 c131_145) rfl ?_
            refine n_geti hΦ (v := A 0 46) (cc3 c131_146) (ji := 46) rfl rfl ?_
            refine i_push (n := 1) (cc3 c131_149) zl_1 ?_
            obtain ⟨g3, h⟩ := h
            refine (fun _ : Rg ((A 0 46) + 1) => i_add (cc3 c131_150) ?_) g3
            refine (fun _ : Rg ((A 0 46) + 1) => n_puti hΦ (cc3 c131_151) (ji := 46) rfl ?_) g3
            refine p_ald (cc3 c131_154) rfl ?_
            refine n_geti hΦ (v := (A 0 46) + 1) (cc3 c131_155) (ji := 46) rfl rfl ?_
            refine p_ald (cc3 c131_158) rfl ?_
            refine n_geti hΦ (v := A 0 1) (cc3 c131_159) (ji := 1) rfl rfl ?_
            refine i_icmp (c' := ((A 0 46) + 1) = (A 0 1)) (cc3 c131_162) (iz_inj g3 (hR 0 1)) (fun c => ?_) (fun c => ?_)
            · have h := h.1 c
              refine i_push (n := 1) (cc3 c131_165) zl_1 ?_
              refine p_goto (cc3 c131_166) ?_
              refine p_lc (ls' := []) c131_170 rfl rfl ?_
              exact i_ri (cct c131_170 rfl) (by decide) h
            · have h := h.2 c
              refine i_push (n := 0) (cc3 c131_169) zl_0 ?_
              refine p_lc (ls' := []) c131_170 rfl rfl ?_
              exact i_ri (cct c131_170 rfl) (by decide) h
        · have h := h.2 c
          refine p_ald (cc3 c131_103) rfl ?_
          refine pm_getp hΦ (cc3 c131_104) (c := 1) rfl (by decide) ?_
          refine p_ald (cc3 c131_107) rfl ?_
          refine n_geti hΦ (v := A 0 46) (cc3 c131_108) (ji := 46) rfl rfl ?_
          refine n_aldi hΦ (c := 1) (n := 160) (ni := 160) (cc3 c131_111) (by decide) rfl rfl rfl (by decide) g1 (v := A 1 (A 0 46)) rfl ?_
          refine i_push (n := 59) (cc3 c131_112) zl_59 ?_
          refine i_icmp (c' := (A 1 (A 0 46)) = 59) (cc3 c131_114) (iz_inj (hR 1 (A 0 46)) (by decide)) (fun c => ?_) (fun c => ?_)
          · have h := h.1 c
            refine p_ald (cct c131_119 rfl) rfl ?_
            refine pm_getp hΦ (cc3 c131_120) (c := 6) rfl (by decide) ?_
            refine p_ild (cc3 c131_123) rfl ?_
            refine p_ald (cc3 c131_124) rfl ?_
            refine pm_getp hΦ (cc3 c131_125) (c := 1) rfl (by decide) ?_
            refine p_ald (cc3 c131_128) rfl ?_
            refine n_geti hΦ (v := A 0 46) (cc3 c131_129) (ji := 46) rfl rfl ?_
            refine n_aldi hΦ (c := 1) (n := 160) (ni := 160) (cc3 c131_132) (by decide) rfl rfl rfl (by decide) g1 (v := A 1 (A 0 46)) rfl ?_
            refine i_push (n := 47) (cc3 c131_133) zl_47 ?_
            refine i_icmp (c' := (A 1 (A 0 46)) = 47) (cc3 c131_135) (iz_inj (hR 1 (A 0 46)) (by decide)) (fun c => ?_) (fun c => ?_)
            · have h := h.1 c
              refine i_push (n := 1) (cc3 c131_138) zl_1 ?_
              refine p_goto (cc3 c131_139) ?_
              refine p_lc (ls' := [(0, .ref m)]) c131_143 rfl rfl ?_
              obtain ⟨g2, h⟩ := h
              refine id (α := Rg 1 → _) (fun _ => ?_) (by decide); refine n_asti hΦ (c := 6) (n := 5) (ni := 5) (hv := (vnarB (by decide))) (cct c131_143 rfl) (by decide) rfl rfl rfl (by decide) g2 ?_
              refine p_ald (cc3 c131_144) rfl ?_
              refine p_dup (cc3 c131_145) rfl ?_
              refine n_geti hΦ (v := A 0 46) (cc3 c131_146) (ji := 46) rfl rfl ?_
              refine i_push (n := 1) (cc3 c131_149) zl_1 ?_
              obtain ⟨g3, h⟩ := h
              refine (fun _ : Rg ((A 0 46) + 1) => i_add (cc3 c131_150) ?_) g3
              refine (fun _ : Rg ((A 0 46) + 1) => n_puti hΦ (cc3 c131_151) (ji := 46) rfl ?_) g3
              refine p_ald (cc3 c131_154) rfl ?_
              refine n_geti hΦ (v := (A 0 46) + 1) (cc3 c131_155) (ji := 46) rfl rfl ?_
              refine p_ald (cc3 c131_158) rfl ?_
              refine n_geti hΦ (v := A 0 1) (cc3 c131_159) (ji := 1) rfl rfl ?_
              refine i_icmp (c' := ((A 0 46) + 1) = (A 0 1)) (cc3 c131_162) (iz_inj g3 (hR 0 1)) (fun c => ?_) (fun c => ?_)
              · have h := h.1 c
                refine i_push (n := 1) (cc3 c131_165) zl_1 ?_
                refine p_goto (cc3 c131_166) ?_
                refine p_lc (ls' := []) c131_170 rfl rfl ?_
                exact i_ri (cct c131_170 rfl) (by decide) h
              · have h := h.2 c
                refine i_push (n := 0) (cc3 c131_169) zl_0 ?_
                refine p_lc (ls' := []) c131_170 rfl rfl ?_
                exact i_ri (cct c131_170 rfl) (by decide) h
            · have h := h.2 c
              refine i_push (n := 0) (cc3 c131_142) zl_0 ?_
              refine p_lc (ls' := [(0, .ref m)]) c131_143 rfl rfl ?_
              obtain ⟨g2, h⟩ := h
              refine id (α := Rg 0 → _) (fun _ => ?_) (by decide); refine n_asti hΦ (c := 6) (n := 5) (ni := 5) (hv := (vnarB (by decide))) (cct c131_143 rfl) (by decide) rfl rfl rfl (by decide) g2 ?_
              refine p_ald (cc3 c131_144) rfl ?_
              refine p_dup (cc3 c131_145) rfl ?_
              refine n_geti hΦ (v := A 0 46) (cc3 c131_146) (ji := 46) rfl rfl ?_
              refine i_push (n := 1) (cc3 c131_149) zl_1 ?_
              obtain ⟨g3, h⟩ := h
              refine (fun _ : Rg ((A 0 46) + 1) => i_add (cc3 c131_150) ?_) g3
              refine (fun _ : Rg ((A 0 46) + 1) => n_puti hΦ (cc3 c131_151) (ji := 46) rfl ?_) g3
              refine p_ald (cc3 c131_154) rfl ?_
              refine n_geti hΦ (v := (A 0 46) + 1) (cc3 c131_155) (ji := 46) rfl rfl ?_
              refine p_ald (cc3 c131_158) rfl ?_
              refine n_geti hΦ (v := A 0 1) (cc3 c131_159) (ji := 1) rfl rfl ?_
              refine i_icmp (c' := ((A 0 46) + 1) = (A 0 1)) (cc3 c131_162) (iz_inj g3 (hR 0 1)) (fun c => ?_) (fun c => ?_)
              · have h := h.1 c
                refine i_push (n := 1) (cc3 c131_165) zl_1 ?_
                refine p_goto (cc3 c131_166) ?_
                refine p_lc (ls' := []) c131_170 rfl rfl ?_
                exact i_ri (cct c131_170 rfl) (by decide) h
              · have h := h.2 c
                refine i_push (n := 0) (cc3 c131_169) zl_0 ?_
                refine p_lc (ls' := []) c131_170 rfl rfl ?_
                exact i_ri (cct c131_170 rfl) (by decide) h
          · have h := h.2 c
            refine p_lc (ls' := []) c131_117 rfl rfl ?_
            refine i_push (n := 0) (cct c131_117 rfl) zl_0 ?_
            exact i_ri (cc3 c131_118) (by decide) h

def TSP (A0 : Nat → Int → Int) (s r : Int) (A' : Nat → Int → Int) : Prop := SFr s [46] A0 A' ∧ ∃ K : Nat, K ≤ 9 ∧ srK (A0 1) (A0 0 1) K ∧ (srFault (A0 1) (A0 0 1) K = -1 → r = 1 ∧ A' 2 s = (K : Int) + 1 ∧ A' 6 s = bI (A0 1 (srE (A0 1) (A0 0 1) (srq (A0 1) (A0 0 1) K)) = 47) ∧ srRead A0 A' s K) ∧ (¬ srFault (A0 1) (A0 0 1) K = -1 → r = 0 ∧ A' 0 46 = srFault (A0 1) (A0 0 1) K)
theorem L131 {d : Nat} (hd : 2 ≤ d) {Q : Option Value → xM → Prop} {m : Nat} {Φ : (Nat → Nat → Int32) → xM} (hΦ : MLaw m Φ) {A0 : Nat → Int → Int} {s : Int} (hs : 0 ≤ s ∧ s < 5) (hn : 0 ≤ A0 0 1 ∧ A0 0 1 ≤ 160)
    (hQ : ∀ r A', RG A' → (r = 0 ∨ r = 1) → TSP A0 s r A' → Q (some (.int (iz r))) (Φ (mI A'))) :
    ∀ (r k : Nat) (A : Nat → Int → Int), k + r = 9 → RG A → SFr s [46] A0 A → A 0 46 = srE (A0 1) (A0 0 1) (srq (A0 1) (A0 0 1) k) → A 2 s = (k : Int) + 1 → (∀ j, j < k → srC (A0 1) (A0 0 1) j) → srOK (A0 1) (A0 0 1) (srq (A0 1) (A0 0 1) k) → srRead A0 A s k → wpE (xT 131) (xev xT d) Q (22, [(0, .ref m), (1, .int (iz s))], [], Φ (mI A)) := by
  intro r
  induction r with
  | zero =>
    intro k A hk hR hF h46 h2 hc hok hrd
    have hk9 : k = 9 := by omega
    have e1 : A 1 = A0 1 := hF.1.1 1 (by decide) (by decide)
    have e01 : A 0 1 = A0 0 1 := hF.1.2 1 (by decide)
    have qn := srq_n hn.1 k hc
    have en : srE (A0 1) (A0 0 1) (srq (A0 1) (A0 0 1) k) ≤ A0 0 1 := by
      have := nd_n (t := A0 1) (n := A0 0 1) (p := srq (A0 1) (A0 0 1) k + 1) (by omega)
      unfold srE; omega
    have e0 : 0 ≤ srE (A0 1) (A0 0 1) (srq (A0 1) (A0 0 1) k) := by
      have := nd_b (t := A0 1) (n := A0 0 1) (p := srq (A0 1) (A0 0 1) k + 1)
      unfold srE; omega
    generalize hE : srE (A0 1) (A0 0 1) (srq (A0 1) (A0 0 1) k) = E at h46 en e0
    have hK : srK (A0 1) (A0 0 1) k := ⟨hc, fun q => by have := q.2.2.2; omega⟩
    have hfl : srFault (A0 1) (A0 0 1) k = if E < A0 0 1 ∧ (A0 1 E = 47 ∨ A0 1 E = 59) then (if E + 1 = A0 0 1 then -1 else E + 1) else E := by unfold srFault; rw [if_neg (fun q => q hok), hE]
    have hbad : ¬ (E < A0 0 1 ∧ (A0 1 E = 47 ∨ A0 1 E = 59)) → Q (some (.int (iz 0))) (Φ (mI A)) := fun q => hQ 0 A hR (Or.inl rfl) ⟨hF, k, by omega, hK, fun q2 => by rw [hfl, if_neg q] at q2; omega, fun _ => ⟨rfl, by rw [hfl, if_neg q]; exact h46⟩⟩
    have hgood : ∀ v : Int, v = bI (A0 1 E = 47) → (A0 1 E = 47 ∨ A0 1 E = 59) → E < A0 0 1 → (E + 1 = A0 0 1 → Q (some (.int (iz 1))) (Φ (mI (UA (UA A 6 s v) 0 46 (E + 1))))) ∧ (¬ E + 1 = A0 0 1 → Q (some (.int (iz 0))) (Φ (mI (UA (UA A 6 s v) 0 46 (E + 1))))) := fun v hv q1 q2 => by
      have hvr : Rg v := by rw [hv]; exact rg_bI
      have hF' : SFr s [46] A0 (UA (UA A 6 s v) 0 46 (E + 1)) := (hF.row (by decide)).fld (by decide)
      have hR' := rg_UA (rg_UA hR (c := 6) (j := s) hvr) (c := 0) (j := 46) (v := E + 1) (by omega)
      refine ⟨fun q3 => hQ 1 _ hR' (Or.inr rfl) ⟨hF', k, by omega, hK, fun _ => ⟨rfl, by rw [UA_c (by decide), UA_c (by decide)]; exact h2, by rw [UA_c (by decide), UA_eq, hE]; exact hv, fun j hj => by rw [UA_c (by decide), UA_c (by decide), UA_c (by decide), UA_c (by decide)]; exact hrd j hj⟩, fun q4 => absurd (by rw [hfl, if_pos ⟨q2, q1⟩, if_pos q3]) q4⟩, fun q3 => hQ 0 _ hR' (Or.inl rfl) ⟨hF', k, by omega, hK, fun q4 => by rw [hfl, if_pos ⟨q2, q1⟩, if_neg q3] at q4; omega, fun _ => ⟨rfl, by rw [UA_eq, hfl, if_pos ⟨q2, q1⟩, if_neg q3]⟩⟩⟩
    refine V131_22 hd hΦ hR (by omega) ?_
    rw [e1, e01, h46]
    repeat' (first | refine And.intro ?_ ?_ | intro _)
    all_goals (first | omega | exact hbad (by omega) | exact (hgood 1 (bI_t (by assumption)).symm (by omega) (by omega)).1 (by assumption) | exact (hgood 1 (bI_t (by assumption)).symm (by omega) (by omega)).2 (by assumption) | exact (hgood 0 (bI_f (by assumption)).symm (by omega) (by omega)).1 (by assumption) | exact (hgood 0 (bI_f (by assumption)).symm (by omega) (by omega)).2 (by assumption) | skip)
    all_goals (exfalso; omega)
  | succ r ih =>
    intro k A hk hR hF h46 h2 hc hok hrd
    have e1 : A 1 = A0 1 := hF.1.1 1 (by decide) (by decide)
    have e01 : A 0 1 = A0 0 1 := hF.1.2 1 (by decide)
    have qn := srq_n hn.1 k hc
    have en : srE (A0 1) (A0 0 1) (srq (A0 1) (A0 0 1) k) ≤ A0 0 1 := by
      have := nd_n (t := A0 1) (n := A0 0 1) (p := srq (A0 1) (A0 0 1) k + 1) (by omega)
      unfold srE; omega
    have e0 : 0 ≤ srE (A0 1) (A0 0 1) (srq (A0 1) (A0 0 1) k) := by
      have := nd_b (t := A0 1) (n := A0 0 1) (p := srq (A0 1) (A0 0 1) k + 1)
      unfold srE; omega
    have eq1 : srq (A0 1) (A0 0 1) (k + 1) = srE (A0 1) (A0 0 1) (srq (A0 1) (A0 0 1) k) + 1 := rfl
    generalize hE : srE (A0 1) (A0 0 1) (srq (A0 1) (A0 0 1) k) = E at h46 en e0 eq1
    have hK : ¬ (E < A0 0 1 ∧ A0 1 E = 32) → srK (A0 1) (A0 0 1) k := fun q => ⟨hc, fun q2 => q ⟨by rw [← hE]; exact q2.2.1, by rw [← hE]; exact q2.2.2.1⟩⟩
    have hfl : srFault (A0 1) (A0 0 1) k = if E < A0 0 1 ∧ (A0 1 E = 47 ∨ A0 1 E = 59) then (if E + 1 = A0 0 1 then -1 else E + 1) else E := by unfold srFault; rw [if_neg (fun q => q hok), hE]
    have hbad : ¬ (E < A0 0 1 ∧ A0 1 E = 32) → ¬ (E < A0 0 1 ∧ (A0 1 E = 47 ∨ A0 1 E = 59)) → Q (some (.int (iz 0))) (Φ (mI A)) := fun q0 q => hQ 0 A hR (Or.inl rfl) ⟨hF, k, by omega, hK q0, fun q2 => by rw [hfl, if_neg q] at q2; omega, fun _ => ⟨rfl, by rw [hfl, if_neg q]; exact h46⟩⟩
    have hgood : ∀ v : Int, v = bI (A0 1 E = 47) → (A0 1 E = 47 ∨ A0 1 E = 59) → E < A0 0 1 → (E + 1 = A0 0 1 → Q (some (.int (iz 1))) (Φ (mI (UA (UA A 6 s v) 0 46 (E + 1))))) ∧ (¬ E + 1 = A0 0 1 → Q (some (.int (iz 0))) (Φ (mI (UA (UA A 6 s v) 0 46 (E + 1))))) := fun v hv q1 q2 => by
      have hK' := hK (by omega)
      have hvr : Rg v := by rw [hv]; exact rg_bI
      have hF' : SFr s [46] A0 (UA (UA A 6 s v) 0 46 (E + 1)) := (hF.row (by decide)).fld (by decide)
      have hR' := rg_UA (rg_UA hR (c := 6) (j := s) hvr) (c := 0) (j := 46) (v := E + 1) (by omega)
      refine ⟨fun q3 => hQ 1 _ hR' (Or.inr rfl) ⟨hF', k, by omega, hK', fun _ => ⟨rfl, by rw [UA_c (by decide), UA_c (by decide)]; exact h2, by rw [UA_c (by decide), UA_eq, hE]; exact hv, fun j hj => by rw [UA_c (by decide), UA_c (by decide), UA_c (by decide), UA_c (by decide)]; exact hrd j hj⟩, fun q4 => absurd (by rw [hfl, if_pos ⟨q2, q1⟩, if_pos q3]) q4⟩, fun q3 => hQ 0 _ hR' (Or.inl rfl) ⟨hF', k, by omega, hK', fun q4 => by rw [hfl, if_pos ⟨q2, q1⟩, if_neg q3] at q4; omega, fun _ => ⟨rfl, by rw [UA_eq, hfl, if_pos ⟨q2, q1⟩, if_neg q3]⟩⟩⟩
    have hnext : E < A0 0 1 → A0 1 E = 32 → ∀ (r1 : Int) (A1 : Nat → Int → Int), Rg r1 → RG A1 → ((srOK ((UA A 0 46 (E + 1)) 1) ((UA A 0 46 (E + 1)) 0 1) ((UA A 0 46 (E + 1)) 0 46) → r1 = 1 ∧ A1 0 46 = srE ((UA A 0 46 (E + 1)) 1) ((UA A 0 46 (E + 1)) 0 1) ((UA A 0 46 (E + 1)) 0 46) ∧ Fr [2, 4, 5] [46] (UA A 0 46 (E + 1)) A1 ∧ (∀ i, ¬ i = s → A1 2 i = (UA A 0 46 (E + 1)) 2 i) ∧ A1 2 s = (UA A 0 46 (E + 1)) 2 s + 1 ∧ (∀ i, ¬ i = 10 * s + (UA A 0 46 (E + 1)) 2 s → A1 4 i = (UA A 0 46 (E + 1)) 4 i ∧ A1 5 i = (UA A 0 46 (E + 1)) 5 i) ∧ A1 4 (10 * s + (UA A 0 46 (E + 1)) 2 s) = (UA A 0 46 (E + 1)) 1 ((UA A 0 46 (E + 1)) 0 46) - 97 ∧ A1 5 (10 * s + (UA A 0 46 (E + 1)) 2 s) = cv ((UA A 0 46 (E + 1)) 1) ((UA A 0 46 (E + 1)) 0 1) ((UA A 0 46 (E + 1)) 0 46 + 1)) ∧ (¬ srOK ((UA A 0 46 (E + 1)) 1) ((UA A 0 46 (E + 1)) 0 1) ((UA A 0 46 (E + 1)) 0 46) → r1 = 0 ∧ A1 0 46 = srF ((UA A 0 46 (E + 1)) 1) ((UA A 0 46 (E + 1)) 0 1) ((UA A 0 46 (E + 1)) 0 46) ∧ Fr [4] [46] (UA A 0 46 (E + 1)) A1 ∧ ∀ i, ¬ i = 10 * s + (UA A 0 46 (E + 1)) 2 s → A1 4 i = (UA A 0 46 (E + 1)) 4 i)) → (r1 = 0 → Q (some (.int (iz 0))) (Φ (mI A1))) ∧ (¬ r1 = 0 → wpE (xT 131) (xev xT d) Q (22, [(0, .ref m), (1, .int (iz s))], [], Φ (mI A1))) := fun q1 q2 r1 A1 hr1 hR1 hp0 => by
      have x1' : UA A 0 46 (E + 1) 1 = A0 1 := by rw [← e1]; rfl
      have x2' : UA A 0 46 (E + 1) 0 1 = A0 0 1 := by rw [← e01]; rfl
      have x3' : UA A 0 46 (E + 1) 0 46 = E + 1 := UA_eq
      have x4' : ∀ c : Nat, ¬ c = 0 → UA A 0 46 (E + 1) c = A c := fun c hc => by funext i; exact UA_c hc
      rw [x1', x2', x3', x4' 2 (by decide), x4' 4 (by decide), x4' 5 (by decide)] at hp0
      have hp1 := hp0
      have hcE : srC (A0 1) (A0 0 1) k := ⟨hok, by rw [hE]; exact q1, by rw [hE]; exact q2, by omega⟩
      have hc1 : ∀ j, j < k + 1 → srC (A0 1) (A0 0 1) j := fun j hj => by
        by_cases e : j = k
        · subst e; exact hcE
        · exact hc j (by omega)
      have hF1 : SFr s [46] A0 (UA A 0 46 (E + 1)) := hF.fld (by decide)
      by_cases o : srOK (A0 1) (A0 0 1) (E + 1)
      · obtain ⟨p1, p2, p3, p4, p5, p6, p7, p8⟩ := hp1.1 o
        refine ⟨fun q => by omega, fun _ => ?_⟩
        have hFn : SFr s [46] A0 A1 := ⟨hF1.1.tr (p3.mono (fun c h => by revert h; simp; omega) (fun j h => h)), fun c h i hi => ?_, fun c h i hi => ?_⟩
        refine ih (k + 1) A1 (by omega) hR1 hFn (by rw [eq1]; exact p2) (by rw [p5, h2]; omega) hc1 (by rw [eq1]; exact o) (fun j hj => ?_)
        · by_cases e : j = k + 1
          · subst e
            rw [eq1, show 10 * s + ((k + 1 : Nat) : Int) = 10 * s + A 2 s by rw [h2]; omega]
            exact ⟨p7, p8⟩
          · have := p6 (10 * s + j) (by rw [h2]; omega)
            rw [this.1, this.2]
            exact hrd j (by omega)
        · rcases (show c = 2 ∨ c = 3 ∨ c = 6 by revert h; simp) with e | e | e <;> subst e
          · rw [p4 i hi]; exact hF.2.1 2 (by decide) i hi
          · rw [p3.1 3 (by decide) (by decide), UA_c (by decide)]; exact hF.2.1 3 (by decide) i hi
          · rw [p3.1 6 (by decide) (by decide), UA_c (by decide)]; exact hF.2.1 6 (by decide) i hi
        · have := p6 i (by rw [h2]; omega)
          rcases (show c = 4 ∨ c = 5 by revert h; simp) with e | e <;> subst e
          · rw [this.1]; exact hF.2.2 4 (by decide) i hi
          · rw [this.2]; exact hF.2.2 5 (by decide) i hi
      · obtain ⟨p1, p2, p3, p4⟩ := hp1.2 o
        refine ⟨fun _ => ?_, fun q => absurd p1 q⟩
        have hFn : SFr s [46] A0 A1 := ⟨hF1.1.tr (p3.mono (fun c h => by revert h; simp; omega) (fun j h => h)), fun c h i hi => ?_, fun c h i hi => ?_⟩
        have hfl1 : srFault (A0 1) (A0 0 1) (k + 1) = srF (A0 1) (A0 0 1) (E + 1) := by unfold srFault; rw [eq1, if_pos o]
        have hge : 0 ≤ srF (A0 1) (A0 0 1) (E + 1) := by unfold srF; split <;> omega
        refine hQ 0 A1 hR1 (Or.inl rfl) ⟨hFn, k + 1, by omega, ⟨hc1, fun q => o (by rw [← eq1]; exact q.1)⟩, fun q => by rw [hfl1] at q; omega, fun _ => ⟨rfl, by rw [hfl1]; exact p2⟩⟩
        · rw [p3.1 c (by revert h; simp; omega) (by revert h; simp; omega), UA_c (by revert h; simp; omega)]; exact hF.2.1 c h i hi
        · rcases (show c = 4 ∨ c = 5 by revert h; simp) with e | e <;> subst e
          · rw [p4 i (by rw [h2]; omega)]; exact hF.2.2 4 (by decide) i hi
          · rw [p3.1 5 (by decide) (by decide), UA_c (by decide)]; exact hF.2.2 5 (by decide) i hi
    refine V131_22 hd hΦ hR (by omega) ?_
    rw [e1, e01, h46]
    repeat' (first | refine And.intro ?_ ?_ | intro _)
    all_goals (first | omega | exact hbad (by omega) (by omega) | exact (hgood 1 (bI_t (by assumption)).symm (by omega) (by omega)).1 (by assumption) | exact (hgood 1 (bI_t (by assumption)).symm (by omega) (by omega)).2 (by assumption) | exact (hgood 0 (bI_f (by assumption)).symm (by omega) (by omega)).1 (by assumption) | exact (hgood 0 (bI_f (by assumption)).symm (by omega) (by omega)).2 (by assumption) | exact (hnext (by omega) (by omega) _ _ (by assumption) (by assumption) (by assumption)).1 (by assumption) | exact (hnext (by omega) (by omega) _ _ (by assumption) (by assumption) (by assumption)).2 (by assumption))

theorem S131 {d : Nat} (hd : 3 ≤ d) {m : Nat} {Φ : (Nat → Nat → Int32) → xM} (hΦ : MLaw m Φ) {A : Nat → Int → Int} (hR : RG A) {x1 : Int} (rr : Rg x1) (hp : (0 ≤ x1 ∧ x1 < 5) ∧ (0 ≤ A 0 1 ∧ A 0 1 ≤ 160)) : ∃ (r : Int) (A' : Nat → Int → Int), xev xT d 131 [.ref m, .int (iz x1)] (Φ (mI A)) (some (.int (iz r))) (Φ (mI A')) ∧ Rg r ∧ RG A' ∧ (SFr x1 [46] A A' ∧ ∃ K : Nat, K ≤ 9 ∧ srK (A 1) (A 0 1) K ∧ (srFault (A 1) (A 0 1) K = -1 → r = 1 ∧ A' 2 x1 = (K : Int) + 1 ∧ A' 6 x1 = bI (A 1 (srE (A 1) (A 0 1) (srq (A 1) (A 0 1) K)) = 47) ∧ srRead A A' x1 K) ∧ (¬ srFault (A 1) (A 0 1) K = -1 → r = 0 ∧ A' 0 46 = srFault (A 1) (A 0 1) K)) := by
  refine xev_g (i := 131) (as := [.ref m, .int (iz x1)]) (σ := Φ (mI A)) (Q := fun r_ σ_ => ∃ (r : Int) (A' : Nat → Int → Int), r_ = (some (.int (iz r))) ∧ σ_ = Φ (mI A') ∧ Rg r ∧ RG A' ∧ (SFr x1 [46] A A' ∧ ∃ K : Nat, K ≤ 9 ∧ srK (A 1) (A 0 1) K ∧ (srFault (A 1) (A 0 1) K = -1 → r = 1 ∧ A' 2 x1 = (K : Int) + 1 ∧ A' 6 x1 = bI (A 1 (srE (A 1) (A 0 1) (srq (A 1) (A 0 1) K)) = 47) ∧ srRead A A' x1 K) ∧ (¬ srFault (A 1) (A 0 1) K = -1 → r = 0 ∧ A' 0 46 = srFault (A 1) (A 0 1) K))) (D := 2) hd (Nat.le_of_ble_eq_true rfl) (fun r_ σ_ he hq => ?_) (fun d hd => V131_0 hd hΦ hR rr ?_)
  · obtain ⟨r, A', rfl, rfl, hq⟩ := hq
    exact ⟨r, A', he, hq⟩

  obtain ⟨h1, h2⟩ := hp
  have hA0 : SFr x1 [46] A (UA (UA A 0 46 0) 2 x1 0) := (SFr.rf.fld (by decide)).row (by decide)
  have hQ : ∀ (r : Int) A', RG A' → (r = 0 ∨ r = 1) → TSP A x1 r A' → ∃ (r' : Int) (A'' : Nat → Int → Int), some (Value.int (iz r)) = some (Value.int (iz r')) ∧ Φ (mI A') = Φ (mI A'') ∧ Rg r' ∧ RG A'' ∧ TSP A x1 r' A'' := fun r A' hR' hr hp' => ⟨r, A', rfl, rfl, by omega, hR', hp'⟩
  refine ⟨h1, by rw [UA_eq]; omega, by omega, h2.2, fun r1 A1 hr1 hR1 hp0 => ?_⟩
  have x1' : UA (UA A 0 46 0) 2 x1 0 1 = A 1 := rfl
  have x2' : UA (UA A 0 46 0) 2 x1 0 0 1 = A 0 1 := rfl
  have x3' : UA (UA A 0 46 0) 2 x1 0 0 46 = 0 := rfl
  have x4' : ∀ c : Nat, ¬ c = 0 → ¬ c = 2 → UA (UA A 0 46 0) 2 x1 0 c = A c := fun c hc hc2 => by funext i; rw [UA_c hc2, UA_c hc]
  have x5' : UA (UA A 0 46 0) 2 x1 0 2 x1 = 0 := UA_eq
  rw [x1', x2', x3', x4' 4 (by decide) (by decide), x4' 5 (by decide) (by decide), x5'] at hp0
  by_cases o : srOK (A 1) (A 0 1) 0
  · obtain ⟨p1, p2, p3, p4, p5, p6, p7, p8⟩ := hp0.1 o
    refine ⟨fun q => by omega, fun _ => ?_⟩
    have hFn : SFr x1 [46] A A1 := ⟨hA0.1.tr (p3.mono (fun c h => by revert h; simp; omega) (fun j h => h)), fun c h i hi => ?_, fun c h i hi => ?_⟩
    refine L131 hd hΦ h1 h2 (fun r A' hR' hr hp' => hQ r A' hR' hr hp') 9 0 A1 rfl hR1 hFn p2 (by rw [p5]; rfl) (fun j hj => absurd hj (by omega)) o (fun j hj => ?_)
    · have e : j = 0 := by omega
      subst e
      exact ⟨p7, p8⟩
    · rcases (show c = 2 ∨ c = 3 ∨ c = 6 by revert h; simp) with e | e | e <;> subst e
      · rw [p4 i hi]; exact hA0.2.1 2 (by decide) i hi
      · rw [p3.1 3 (by decide) (by decide)]; exact hA0.2.1 3 (by decide) i hi
      · rw [p3.1 6 (by decide) (by decide)]; exact hA0.2.1 6 (by decide) i hi
    · have := p6 i (by omega)
      rcases (show c = 4 ∨ c = 5 by revert h; simp) with e | e <;> subst e
      · exact this.1
      · exact this.2
  · obtain ⟨p1, p2, p3, p4⟩ := hp0.2 o
    refine ⟨fun _ => ?_, fun q => absurd p1 q⟩
    have hFn : SFr x1 [46] A A1 := ⟨hA0.1.tr (p3.mono (fun c h => by revert h; simp; omega) (fun j h => h)), fun c h i hi => ?_, fun c h i hi => ?_⟩
    have hfl1 : srFault (A 1) (A 0 1) 0 = srF (A 1) (A 0 1) 0 := by unfold srFault; rw [if_pos (show ¬ srOK (A 1) (A 0 1) (srq (A 1) (A 0 1) 0) from o)]; rfl
    have hge : 0 ≤ srF (A 1) (A 0 1) 0 := by unfold srF; split <;> omega
    refine hQ 0 A1 hR1 (Or.inl rfl) ⟨hFn, 0, by omega, ⟨fun j hj => absurd hj (by omega), fun q => o q.1⟩, fun q => by rw [hfl1] at q; omega, fun _ => ⟨rfl, by rw [hfl1]; exact p2⟩⟩
    · rw [p3.1 c (by revert h; simp; omega) (by revert h; simp; omega)]; exact hA0.2.1 c h i hi
    · rcases (show c = 4 ∨ c = 5 by revert h; simp) with e | e <;> subst e
      · exact p4 i (by omega)
      · rw [p3.1 5 (by decide) (by decide)]; exact hA0.2.2 5 (by decide) i hi
/-- the period that is read -/
def srPer (t : Int → Int) (n : Int) (K : Nat) : Int := sm (fun i => cv t n (srq t n i.toNat + 1) * (if t (srE t n (srq t n K)) = 47 ∧ 0 < i ∧ i < K then 2 else 1)) (K + 1)
theorem cv_b {t : Int → Int} {n p : Int} : 0 ≤ cv t n p ∧ cv t n p ≤ 999 := by
  have ndb := nd_b (t := t) (n := n) (p := p)
  have hdg : ∀ i : Nat, (i : Int) < nd t n p → 48 ≤ t (p + i) ∧ t (p + i) ≤ 57 := fun i hi => by
    unfold nd at hi
    (repeat' split at hi) <;> first | omega | skip
    · rw [show (i : Int) = 0 by omega, Int.add_zero]; omega
    · rcases (show i = 0 ∨ i = 1 by omega) with e | e <;> subst e <;> simp <;> omega
    · rcases (show i = 0 ∨ i = 1 ∨ i = 2 by omega) with e | e | e <;> subst e <;> simp <;> omega
  have := dv_b (t := t) (p := p) (nd t n p).toNat (by omega) (fun i hi => hdg i (by omega))
  unfold cv; omega
theorem V130_0 {d : Nat} (hd : 3 ≤ d) {Q : Option Value → xM → Prop} {m : Nat} {Φ : (Nat → Nat → Int32) → xM} (hΦ : MLaw m Φ) {A : Nat → Int → Int} (hR : RG A) (h : ((((A 0 2) = 4) → Q (some (.int (iz (-4)))) (Φ (mI A))) ∧ (¬ ((A 0 2) = 4) → (0 ≤ (A 0 2) ∧ (A 0 2) < 5) ∧ (0 ≤ A 0 1 ∧ A 0 1 ≤ 160) ∧ (∀ (r_1 : Int) (A_1 : Nat → Int → Int), Rg r_1 → RG A_1 → (SFr (A 0 2) [46] A A_1 ∧ ∃ K : Nat, K ≤ 9 ∧ srK (A 1) (A 0 1) K ∧ (srFault (A 1) (A 0 1) K = -1 → r_1 = 1 ∧ A_1 2 (A 0 2) = (K : Int) + 1 ∧ A_1 6 (A 0 2) = bI (A 1 (srE (A 1) (A 0 1) (srq (A 1) (A 0 1) K)) = 47) ∧ srRead A A_1 (A 0 2) K) ∧ (¬ srFault (A 1) (A 0 1) K = -1 → r_1 = 0 ∧ A_1 0 46 = srFault (A 1) (A 0 1) K)) → (((r_1 = 0) → (Rg ((-100) - (A_1 0 46))) ∧ Q (some (.int (iz ((-100) - (A_1 0 46))))) (Φ (mI (UA A_1 0 1 0)))) ∧ (¬ (r_1 = 0) → wpE (xT 130) (xev xT d) Q (44, [(0, .ref m), (3, .int (iz 0)), (4, .int (iz 0))], [], Φ (mI (UA A_1 0 1 0))))))))) : wpE (xT 130) (xev xT d) Q (0, [(0, .ref m)], [], Φ (mI A)) := by
  refine p_ald (cc3 c130_0) rfl ?_
  refine n_geti hΦ (v := A 0 2) (cc3 c130_1) (ji := 2) rfl rfl ?_
  refine i_push (n := 4) (cc3 c130_4) zl_4 ?_
  refine i_icmp (c' := (A 0 2) = 4) (cc3 c130_5) (iz_inj (hR 0 2) (by decide)) (fun c => ?_) (fun c => ?_)
  · have h := h.1 c
    refine i_push (n := (-4)) (cc3 c130_8) zl_m4 ?_
    exact p_ri (cc3 c130_10) trivial h
  · have h := h.2 c
    refine p_ald (cc3 c130_11) rfl ?_
    refine p_ald (cc3 c130_12) rfl ?_
    refine n_geti hΦ (v := A 0 2) (cc3 c130_13) (ji := 2) rfl rfl ?_
    obtain ⟨g1, h⟩ := h
    obtain ⟨g2, h⟩ := h
    obtain ⟨r_1, A_1, he, hr_1, hR_1, hp_1⟩ := S131 (A := A) (Nat.le_trans (by decide) hd) hΦ hR (hR 0 2) ⟨g1, g2⟩
    have h := h r_1 A_1 hr_1 hR_1 hp_1
    refine p_callV (cc3 c130_16) (Nat.le_of_ble_eq_true rfl) rfl rfl (Nat.le_of_ble_eq_true rfl) (ml_kd hΦ) he ?_
    refine p_ist (ls' := [(1, .int (iz r_1)), (0, .ref m)]) (cc3 c130_19) (by decide) rfl ?_
    refine p_ald (cc3 c130_20) rfl ?_
    refine n_geti hΦ (v := A_1 0 46) (cc3 c130_21) (ji := 46) rfl rfl ?_
    refine p_ist (ls' := [(2, .int (iz (A_1 0 46))), (1, .int (iz r_1)), (0, .ref m)]) (cc3 c130_24) (by decide) rfl ?_
    refine p_ald (cc3 c130_25) rfl ?_
    refine i_push (n := 0) (cc3 c130_26) zl_0 ?_
    refine (fun _ : Rg 0 => n_puti hΦ (cc3 c130_27) (ji := 1) rfl ?_) (by decide)
    refine p_ild (cc3 c130_30) rfl ?_
    refine i_if (c' := r_1 = 0) (cc3 c130_31) (c_eq0 hr_1) (fun c => ?_) (fun c => ?_)
    · have h := h.1 c
      refine i_push (n := (-100)) (cc3 c130_34) zl_m100 ?_
      refine p_ild (cc3 c130_36) rfl ?_
      obtain ⟨g3, h⟩ := h
      refine (fun _ : Rg ((-100) - (A_1 0 46)) => i_sub (cc3 c130_37) ?_) g3
      exact p_ri (cc3 c130_38) trivial h
    · have h := h.2 c
      refine i_push (n := 0) (cc3 c130_39) zl_0 ?_
      refine p_ist (ls' := [(3, .int (iz 0)), (2, .int (iz (A_1 0 46))), (1, .int (iz r_1)), (0, .ref m)]) (cc3 c130_40) (by decide) rfl ?_
      refine i_push (n := 0) (cc3 c130_41) zl_0 ?_
      refine p_ist (ls' := [(4, .int (iz 0)), (3, .int (iz 0)), (2, .int (iz (A_1 0 46))), (1, .int (iz r_1)), (0, .ref m)]) (cc3 c130_42) (by decide) rfl ?_
      exact p_lc (ls' := [(0, .ref m), (3, .int (iz 0)), (4, .int (iz 0))]) c130_44 rfl rfl h
theorem V130_44 {d : Nat} (hd : 3 ≤ d) {Q : Option Value → xM → Prop} {m : Nat} {Φ : (Nat → Nat → Int32) → xM} (hΦ : MLaw m Φ) {A : Nat → Int → Int} (hR : RG A) {x3 x4 : Int} (rr : Rg x3 ∧ Rg x4) (h : (0 ≤ (A 0 2) ∧ (A 0 2) < 5) ∧ ((((A 2 (A 0 2)) ≤ x4) → (((x3 ≤ 400) → (Rg ((A 0 2) + 1)) ∧ (Rg (((A 0 2) + 1) - 1)) ∧ Q (some (.int (iz (((A 0 2) + 1) - 1)))) (Φ (mI (UA (UA A 3 (A 0 2) x3) 0 2 ((A 0 2) + 1))))) ∧ (¬ (x3 ≤ 400) → Q (some (.int (iz (-9)))) (Φ (mI A))))) ∧ (¬ ((A 2 (A 0 2)) ≤ x4) → (Rg (10 * (A 0 2))) ∧ (Rg ((10 * (A 0 2)) + x4)) ∧ (0 ≤ ((10 * (A 0 2)) + x4) ∧ ((10 * (A 0 2)) + x4) < 50) ∧ ((((A 6 (A 0 2)) = 0) → (Rg ((A 5 ((10 * (A 0 2)) + x4)) * 1)) ∧ (Rg (x3 + ((A 5 ((10 * (A 0 2)) + x4)) * 1))) ∧ (Rg (x4 + 1)) ∧ wpE (xT 130) (xev xT d) Q (44, [(0, .ref m), (3, .int (iz (x3 + ((A 5 ((10 * (A 0 2)) + x4)) * 1)))), (4, .int (iz (x4 + 1)))], [], Φ (mI A))) ∧ (¬ ((A 6 (A 0 2)) = 0) → (((x4 ≤ 0) → (Rg ((A 5 ((10 * (A 0 2)) + x4)) * 1)) ∧ (Rg (x3 + ((A 5 ((10 * (A 0 2)) + x4)) * 1))) ∧ (Rg (x4 + 1)) ∧ wpE (xT 130) (xev xT d) Q (44, [(0, .ref m), (3, .int (iz (x3 + ((A 5 ((10 * (A 0 2)) + x4)) * 1)))), (4, .int (iz (x4 + 1)))], [], Φ (mI A))) ∧ (¬ (x4 ≤ 0) → (Rg ((A 2 (A 0 2)) - 1)) ∧ (((((A 2 (A 0 2)) - 1) ≤ x4) → (Rg ((A 5 ((10 * (A 0 2)) + x4)) * 1)) ∧ (Rg (x3 + ((A 5 ((10 * (A 0 2)) + x4)) * 1))) ∧ (Rg (x4 + 1)) ∧ wpE (xT 130) (xev xT d) Q (44, [(0, .ref m), (3, .int (iz (x3 + ((A 5 ((10 * (A 0 2)) + x4)) * 1)))), (4, .int (iz (x4 + 1)))], [], Φ (mI A))) ∧ (¬ (((A 2 (A 0 2)) - 1) ≤ x4) → (Rg ((A 5 ((10 * (A 0 2)) + x4)) * 2)) ∧ (Rg (x3 + ((A 5 ((10 * (A 0 2)) + x4)) * 2))) ∧ (Rg (x4 + 1)) ∧ wpE (xT 130) (xev xT d) Q (44, [(0, .ref m), (3, .int (iz (x3 + ((A 5 ((10 * (A 0 2)) + x4)) * 2)))), (4, .int (iz (x4 + 1)))], [], Φ (mI A))))))))))) : wpE (xT 130) (xev xT d) Q (44, [(0, .ref m), (3, .int (iz x3)), (4, .int (iz x4))], [], Φ (mI A)) := by
  refine p_ild (cct c130_44 rfl) rfl ?_
  refine p_ald (cc3 c130_46) rfl ?_
  refine pm_getp hΦ (cc3 c130_47) (c := 2) rfl (by decide) ?_
  refine p_ald (cc3 c130_50) rfl ?_
  refine n_geti hΦ (v := A 0 2) (cc3 c130_51) (ji := 2) rfl rfl ?_
  obtain ⟨g1, h⟩ := h
  refine n_aldi hΦ (c := 2) (n := 5) (ni := 5) (cc3 c130_54) (by decide) rfl rfl rfl (by decide) g1 (v := A 2 (A 0 2)) rfl ?_
  refine i_icmp (c' := (A 2 (A 0 2)) ≤ x4) (cc3 c130_55) (iz_le (hR 2 (A 0 2)) rr.2) (fun c => ?_) (fun c => ?_)
  · have h := h.1 c
    refine p_ild (cc3 c130_121) rfl ?_
    refine i_push (n := 400) (cc3 c130_122) zl_400 ?_
    refine i_icmp (c' := x3 ≤ 400) (cc3 c130_125) (iz_le rr.1 (by decide)) (fun c => ?_) (fun c => ?_)
    · have h := h.1 c
      refine p_ald (cc3 c130_131) rfl ?_
      refine pm_getp hΦ (cc3 c130_132) (c := 3) rfl (by decide) ?_
      refine p_ald (cc3 c130_135) rfl ?_
      refine n_geti hΦ (v := A 0 2) (cc3 c130_136) (ji := 2) rfl rfl ?_
      refine p_ild (cc3 c130_139) rfl ?_
      refine id (α := Rg x3 → _) (fun _ => ?_) rr.1; refine n_asti hΦ (c := 3) (n := 5) (ni := 5) (hv := rfl) (cc3 c130_140) (by decide) rfl rfl rfl (by decide) g1 ?_
      refine p_ald (cc3 c130_141) rfl ?_
      refine p_dup (cc3 c130_142) rfl ?_
      refine n_geti hΦ (v := A 0 2) (cc3 c130_143) (ji := 2) rfl rfl ?_
      refine i_push (n := 1) (cc3 c130_146) zl_1 ?_
      obtain ⟨g2, h⟩ := h
      refine (fun _ : Rg ((A 0 2) + 1) => i_add (cc3 c130_147) ?_) g2
      refine (fun _ : Rg ((A 0 2) + 1) => n_puti hΦ (cc3 c130_148) (ji := 2) rfl ?_) g2
      refine p_ald (cc3 c130_151) rfl ?_
      refine n_geti hΦ (v := (A 0 2) + 1) (cc3 c130_152) (ji := 2) rfl rfl ?_
      refine i_push (n := 1) (cc3 c130_155) zl_1 ?_
      obtain ⟨g3, h⟩ := h
      refine (fun _ : Rg (((A 0 2) + 1) - 1) => i_sub (cc3 c130_156) ?_) g3
      exact p_ri (cc3 c130_157) trivial h
    · have h := h.2 c
      refine i_push (n := (-9)) (cc3 c130_128) zl_m9 ?_
      exact p_ri (cc3 c130_130) trivial h
  · have h := h.2 c
    refine p_ild (cc3 c130_58) rfl ?_
    refine p_ald (cc3 c130_59) rfl ?_
    refine pm_getp hΦ (cc3 c130_60) (c := 5) rfl (by decide) ?_
    refine i_push (n := 10) (cc3 c130_63) zl_10 ?_
    refine p_ald (cc3 c130_65) rfl ?_
    refine n_geti hΦ (v := A 0 2) (cc3 c130_66) (ji := 2) rfl rfl ?_
    obtain ⟨g2, h⟩ := h
    refine (fun _ : Rg (10 * (A 0 2)) => i_mul (cc3 c130_69) ?_) g2
    refine p_ild (cc3 c130_70) rfl ?_
    obtain ⟨g3, h⟩ := h
    refine (fun _ : Rg ((10 * (A 0 2)) + x4) => i_add (cc3 c130_72) ?_) g3
    obtain ⟨g4, h⟩ := h
    refine n_aldi hΦ (c := 5) (n := 50) (ni := 50) (cc3 c130_73) (by decide) rfl rfl rfl (by decide) g4 (v := A 5 ((10 * (A 0 2)) + x4)) rfl ?_
    refine p_ald (cc3 c130_74) rfl ?_
    refine pm_getp hΦ (cc3 c130_75) (c := 6) rfl (by decide) ?_
    refine p_ald (cc3 c130_78) rfl ?_
    refine n_geti hΦ (v := A 0 2) (cc3 c130_79) (ji := 2) rfl rfl ?_
    refine n_aldi hΦ (c := 6) (n := 5) (ni := 5) (cc3 c130_82) (by decide) rfl rfl rfl (by decide) g1 (v := A 6 (A 0 2)) rfl ?_
    refine i_if (c' := (A 6 (A 0 2)) = 0) (cc3 c130_83) (c_eq0 (hR 6 (A 0 2))) (fun c => ?_) (fun c => ?_)
    · have h := h.1 c
      refine p_lc (ls' := [(0, .ref m), (4, .int (iz x4))]) c130_111 rfl rfl ?_
      refine i_push (n := 1) (cct c130_111 rfl) zl_1 ?_
      obtain ⟨g5, h⟩ := h
      refine (fun _ : Rg ((A 5 ((10 * (A 0 2)) + x4)) * 1) => i_mul (cct c130_112 rfl) ?_) g5
      obtain ⟨g6, h⟩ := h
      refine (fun _ : Rg (x3 + ((A 5 ((10 * (A 0 2)) + x4)) * 1)) => i_add (cc3 c130_113) ?_) g6
      refine p_ist (ls' := [(3, .int (iz (x3 + ((A 5 ((10 * (A 0 2)) + x4)) * 1)))), (0, .ref m), (4, .int (iz x4))]) (cc3 c130_114) (by decide) rfl ?_
      obtain ⟨g7, h⟩ := h
      refine (fun _ : Rg (x4 + 1) => i_iinc (n := 1) (y := x4 + 1) (ls' := [(4, .int (iz (x4 + 1))), (3, .int (iz (x3 + ((A 5 ((10 * (A 0 2)) + x4)) * 1)))), (0, .ref m)]) (cc3 c130_115) (by decide) rfl zl_1 (by first | rfl | omega) rfl ?_) g7
      refine p_goto (cc3 c130_118) ?_
      exact p_lc (ls' := [(0, .ref m), (3, .int (iz (x3 + ((A 5 ((10 * (A 0 2)) + x4)) * 1)))), (4, .int (iz (x4 + 1)))]) c130_44 rfl rfl h
    · have h := h.2 c
      refine p_ild (cc3 c130_86) rfl ?_
      refine i_if (c' := x4 ≤ 0) (cc3 c130_88) (c_le0 rr.2) (fun c => ?_) (fun c => ?_)
      · have h := h.1 c
        refine p_lc (ls' := [(0, .ref m), (4, .int (iz x4))]) c130_111 rfl rfl ?_
        refine i_push (n := 1) (cct c130_111 rfl) zl_1 ?_
        obtain ⟨g5, h⟩ := h
        refine (fun _ : Rg ((A 5 ((10 * (A 0 2)) + x4)) * 1) => i_mul (cct c130_112 rfl) ?_) g5
        obtain ⟨g6, h⟩ := h
        refine (fun _ : Rg (x3 + ((A 5 ((10 * (A 0 2)) + x4)) * 1)) => i_add (cc3 c130_113) ?_) g6
        refine p_ist (ls' := [(3, .int (iz (x3 + ((A 5 ((10 * (A 0 2)) + x4)) * 1)))), (0, .ref m), (4, .int (iz x4))]) (cc3 c130_114) (by decide) rfl ?_
        obtain ⟨g7, h⟩ := h
        refine (fun _ : Rg (x4 + 1) => i_iinc (n := 1) (y := x4 + 1) (ls' := [(4, .int (iz (x4 + 1))), (3, .int (iz (x3 + ((A 5 ((10 * (A 0 2)) + x4)) * 1)))), (0, .ref m)]) (cc3 c130_115) (by decide) rfl zl_1 (by first | rfl | omega) rfl ?_) g7
        refine p_goto (cc3 c130_118) ?_
        exact p_lc (ls' := [(0, .ref m), (3, .int (iz (x3 + ((A 5 ((10 * (A 0 2)) + x4)) * 1)))), (4, .int (iz (x4 + 1)))]) c130_44 rfl rfl h
      · have h := h.2 c
        refine p_ild (cc3 c130_91) rfl ?_
        refine p_ald (cc3 c130_93) rfl ?_
        refine pm_getp hΦ (cc3 c130_94) (c := 2) rfl (by decide) ?_
        refine p_ald (cc3 c130_97) rfl ?_
        refine n_geti hΦ (v := A 0 2) (cc3 c130_98) (ji := 2) rfl rfl ?_
        refine n_aldi hΦ (c := 2) (n := 5) (ni := 5) (cc3 c130_101) (by decide) rfl rfl rfl (by decide) g1 (v := A 2 (A 0 2)) rfl ?_
        refine i_push (n := 1) (cc3 c130_102) zl_1 ?_
        obtain ⟨g5, h⟩ := h
        refine (fun _ : Rg ((A 2 (A 0 2)) - 1) => i_sub (cc3 c130_103) ?_) g5
        refine i_icmp (c' := ((A 2 (A 0 2)) - 1) ≤ x4) (cc3 c130_104) (iz_le g5 rr.2) (fun c => ?_) (fun c => ?_)
        · have h := h.1 c
          refine p_lc (ls' := [(0, .ref m), (4, .int (iz x4))]) c130_111 rfl rfl ?_
          refine i_push (n := 1) (cct c130_111 rfl) zl_1 ?_
          obtain ⟨g6, h⟩ := h
          refine (fun _ : Rg ((A 5 ((10 * (A 0 2)) + x4)) * 1) => i_mul (cct c130_112 rfl) ?_) g6
          obtain ⟨g7, h⟩ := h
          refine (fun _ : Rg (x3 + ((A 5 ((10 * (A 0 2)) + x4)) * 1)) => i_add (cc3 c130_113) ?_) g7
          refine p_ist (ls' := [(3, .int (iz (x3 + ((A 5 ((10 * (A 0 2)) + x4)) * 1)))), (0, .ref m), (4, .int (iz x4))]) (cc3 c130_114) (by decide) rfl ?_
          obtain ⟨g8, h⟩ := h
          refine (fun _ : Rg (x4 + 1) => i_iinc (n := 1) (y := x4 + 1) (ls' := [(4, .int (iz (x4 + 1))), (3, .int (iz (x3 + ((A 5 ((10 * (A 0 2)) + x4)) * 1)))), (0, .ref m)]) (cc3 c130_115) (by decide) rfl zl_1 (by first | rfl | omega) rfl ?_) g8
          refine p_goto (cc3 c130_118) ?_
          exact p_lc (ls' := [(0, .ref m), (3, .int (iz (x3 + ((A 5 ((10 * (A 0 2)) + x4)) * 1)))), (4, .int (iz (x4 + 1)))]) c130_44 rfl rfl h
        · have h := h.2 c
          refine i_push (n := 2) (cc3 c130_107) zl_2 ?_
          refine p_goto (cc3 c130_108) ?_
          refine p_lc (ls' := [(0, .ref m), (4, .int (iz x4))]) c130_112 rfl rfl ?_
          obtain ⟨g6, h⟩ := h
          refine (fun _ : Rg ((A 5 ((10 * (A 0 2)) + x4)) * 2) => i_mul (cct c130_112 rfl) ?_) g6
          obtain ⟨g7, h⟩ := h
          refine (fun _ : Rg (x3 + ((A 5 ((10 * (A 0 2)) + x4)) * 2)) => i_add (cc3 c130_113) ?_) g7
          refine p_ist (ls' := [(3, .int (iz (x3 + ((A 5 ((10 * (A 0 2)) + x4)) * 2)))), (0, .ref m), (4, .int (iz x4))]) (cc3 c130_114) (by decide) rfl ?_
          obtain ⟨g8, h⟩ := h
          refine (fun _ : Rg (x4 + 1) => i_iinc (n := 1) (y := x4 + 1) (ls' := [(4, .int (iz (x4 + 1))), (3, .int (iz (x3 + ((A 5 ((10 * (A 0 2)) + x4)) * 2)))), (0, .ref m)]) (cc3 c130_115) (by decide) rfl zl_1 (by first | rfl | omega) rfl ?_) g8
          refine p_goto (cc3 c130_118) ?_
          exact p_lc (ls' := [(0, .ref m), (3, .int (iz (x3 + ((A 5 ((10 * (A 0 2)) + x4)) * 2)))), (4, .int (iz (x4 + 1)))]) c130_44 rfl rfl h

theorem L130 {d : Nat} (hd : 3 ≤ d) {Q : Option Value → xM → Prop} {m : Nat} {Φ : (Nat → Nat → Int32) → xM} (hΦ : MLaw m Φ) {A0 A : Nat → Int → Int} (hR : RG A) {K : Nat} {s : Int} (hs : A 0 2 = s) (hs2 : 0 ≤ s ∧ s < 4) (hK : K ≤ 9) (h2 : A 2 s = (K : Int) + 1) (h6 : A 6 s = bI (A0 1 (srE (A0 1) (A0 0 1) (srq (A0 1) (A0 0 1) K)) = 47)) (hrd : srRead A0 A s K)
    (hQ1 : 400 < srPer (A0 1) (A0 0 1) K → Q (some (.int (iz (-9)))) (Φ (mI A))) (hQ2 : ¬ 400 < srPer (A0 1) (A0 0 1) K → Q (some (.int (iz (s + 1 - 1)))) (Φ (mI (UA (UA A 3 s (srPer (A0 1) (A0 0 1) K)) 0 2 (s + 1))))) :
    ∀ (r k : Nat), k + r = K + 1 → wpE (xT 130) (xev xT d) Q (44, [(0, .ref m), (3, .int (iz (sm (fun i => cv (A0 1) (A0 0 1) (srq (A0 1) (A0 0 1) i.toNat + 1) * (if A0 1 (srE (A0 1) (A0 0 1) (srq (A0 1) (A0 0 1) K)) = 47 ∧ 0 < i ∧ i < K then 2 else 1)) k))), (4, .int (iz k))], [], Φ (mI A)) := by
  have hb : ∀ k : Nat, 0 ≤ sm (fun i => cv (A0 1) (A0 0 1) (srq (A0 1) (A0 0 1) i.toNat + 1) * (if A0 1 (srE (A0 1) (A0 0 1) (srq (A0 1) (A0 0 1) K)) = 47 ∧ 0 < i ∧ i < K then 2 else 1)) k ∧ sm (fun i => cv (A0 1) (A0 0 1) (srq (A0 1) (A0 0 1) i.toNat + 1) * (if A0 1 (srE (A0 1) (A0 0 1) (srq (A0 1) (A0 0 1) K)) = 47 ∧ 0 < i ∧ i < K then 2 else 1)) k ≤ k * 1998 := fun k => by
    refine ⟨sm_nn fun i _ => ?_, sm_le fun i _ => ?_⟩ <;> (have := cv_b (t := A0 1) (n := A0 0 1) (p := srq (A0 1) (A0 0 1) (i : Int).toNat + 1); split <;> omega)
  intro r
  induction r with
  | zero =>
    intro k hk
    have hbk := hb k
    refine V130_44 hd hΦ hR (by omega) ?_
    rw [hs, h2]
    refine ⟨by omega, fun _ => ⟨fun c => ⟨by omega, by omega, ?_⟩, fun c => ?_⟩, fun c => absurd (show (K : Int) + 1 ≤ k by omega) c⟩
    · have := hQ2 (by unfold srPer; rw [show K + 1 = k by omega]; omega)
      unfold srPer at this
      rw [show K + 1 = k by omega] at this
      exact this
    · exact hQ1 (by unfold srPer; rw [show K + 1 = k by omega]; omega)
  | succ r ih =>
    intro k hk
    have hbk := hb k
    have hw : A 5 (10 * s + k) = cv (A0 1) (A0 0 1) (srq (A0 1) (A0 0 1) k + 1) := (hrd k (by omega)).2
    have cb := cv_b (t := A0 1) (n := A0 0 1) (p := srq (A0 1) (A0 0 1) k + 1)
    have ih' := ih (k + 1) (by omega)
    have e : sm (fun i => cv (A0 1) (A0 0 1) (srq (A0 1) (A0 0 1) i.toNat + 1) * (if A0 1 (srE (A0 1) (A0 0 1) (srq (A0 1) (A0 0 1) K)) = 47 ∧ 0 < i ∧ i < K then 2 else 1)) (k + 1) = sm (fun i => cv (A0 1) (A0 0 1) (srq (A0 1) (A0 0 1) i.toNat + 1) * (if A0 1 (srE (A0 1) (A0 0 1) (srq (A0 1) (A0 0 1) K)) = 47 ∧ 0 < i ∧ i < K then 2 else 1)) k + cv (A0 1) (A0 0 1) (srq (A0 1) (A0 0 1) k + 1) * (if A0 1 (srE (A0 1) (A0 0 1) (srq (A0 1) (A0 0 1) K)) = 47 ∧ 0 < (k : Int) ∧ (k : Int) < K then 2 else 1) := rfl
    rw [e] at ih'
    generalize sm (fun i => cv (A0 1) (A0 0 1) (srq (A0 1) (A0 0 1) i.toNat + 1) * (if A0 1 (srE (A0 1) (A0 0 1) (srq (A0 1) (A0 0 1) K)) = 47 ∧ 0 < i ∧ i < K then 2 else 1)) k = S at hbk ih' ⊢
    have i1 : ¬ (A0 1 (srE (A0 1) (A0 0 1) (srq (A0 1) (A0 0 1) K)) = 47 ∧ 0 < (k : Int) ∧ (k : Int) < K) → wpE (xT 130) (xev xT d) Q (44, [(0, .ref m), (3, .int (iz (S + cv (A0 1) (A0 0 1) (srq (A0 1) (A0 0 1) k + 1) * 1))), (4, .int (iz ((k : Int) + 1)))], [], Φ (mI A)) := fun q => by rw [if_neg q] at ih'; exact ih'
    have i2 : (A0 1 (srE (A0 1) (A0 0 1) (srq (A0 1) (A0 0 1) K)) = 47 ∧ 0 < (k : Int) ∧ (k : Int) < K) → wpE (xT 130) (xev xT d) Q (44, [(0, .ref m), (3, .int (iz (S + cv (A0 1) (A0 0 1) (srq (A0 1) (A0 0 1) k + 1) * 2))), (4, .int (iz ((k : Int) + 1)))], [], Φ (mI A)) := fun q => by rw [if_pos q] at ih'; exact ih'
    refine V130_44 hd hΦ hR (by omega) ?_
    rw [hs, h2, h6, hw]
    simp only [bI_0]
    refine ⟨by omega, fun c => absurd c (by omega), fun _ => ⟨by omega, by omega, by omega, fun c => ⟨by omega, by omega, by omega, i1 (fun q => c q.1)⟩, fun c => ⟨fun c2 => ⟨by omega, by omega, by omega, i1 (fun q => by omega)⟩, fun c2 => ⟨by omega, fun c3 => ⟨by omega, by omega, by omega, i1 (fun q => by omega)⟩, fun c3 => ⟨by omega, by omega, by omega, i2 ⟨Classical.not_not.mp c, by omega, by omega⟩⟩⟩⟩⟩⟩
theorem S130 {d : Nat} (hd : 4 ≤ d) {m : Nat} {Φ : (Nat → Nat → Int32) → xM} (hΦ : MLaw m Φ) {A : Nat → Int → Int} (hR : RG A) (hp : (0 ≤ A 0 2 ∧ A 0 2 ≤ 4) ∧ (0 ≤ A 0 1 ∧ A 0 1 ≤ 160)) : ∃ (r : Int) (A' : Nat → Int → Int), xev xT d 130 [.ref m] (Φ (mI A)) (some (.int (iz r))) (Φ (mI A')) ∧ Rg r ∧ RG A' ∧ ((A 0 2 = 4 → r = -4 ∧ A' = A) ∧ (¬ A 0 2 = 4 → SFr (A 0 2) [1, 2, 46] A A' ∧ A' 0 1 = 0 ∧ ∃ K : Nat, K ≤ 9 ∧ srK (A 1) (A 0 1) K ∧ (¬ srFault (A 1) (A 0 1) K = -1 → r = -100 - srFault (A 1) (A 0 1) K ∧ A' 0 2 = A 0 2) ∧ (srFault (A 1) (A 0 1) K = -1 → (400 < srPer (A 1) (A 0 1) K → r = -9 ∧ A' 0 2 = A 0 2) ∧ (¬ 400 < srPer (A 1) (A 0 1) K → r = A 0 2 ∧ A' 0 2 = A 0 2 + 1 ∧ A' 3 (A 0 2) = srPer (A 1) (A 0 1) K ∧ A' 2 (A 0 2) = (K : Int) + 1 ∧ A' 6 (A 0 2) = bI (A 1 (srE (A 1) (A 0 1) (srq (A 1) (A 0 1) K)) = 47) ∧ srRead A A' (A 0 2) K)))) := by
  refine xev_g (i := 130) (as := [.ref m]) (σ := Φ (mI A)) (Q := fun r_ σ_ => ∃ (r : Int) (A' : Nat → Int → Int), r_ = (some (.int (iz r))) ∧ σ_ = Φ (mI A') ∧ Rg r ∧ RG A' ∧ ((A 0 2 = 4 → r = -4 ∧ A' = A) ∧ (¬ A 0 2 = 4 → SFr (A 0 2) [1, 2, 46] A A' ∧ A' 0 1 = 0 ∧ ∃ K : Nat, K ≤ 9 ∧ srK (A 1) (A 0 1) K ∧ (¬ srFault (A 1) (A 0 1) K = -1 → r = -100 - srFault (A 1) (A 0 1) K ∧ A' 0 2 = A 0 2) ∧ (srFault (A 1) (A 0 1) K = -1 → (400 < srPer (A 1) (A 0 1) K → r = -9 ∧ A' 0 2 = A 0 2) ∧ (¬ 400 < srPer (A 1) (A 0 1) K → r = A 0 2 ∧ A' 0 2 = A 0 2 + 1 ∧ A' 3 (A 0 2) = srPer (A 1) (A 0 1) K ∧ A' 2 (A 0 2) = (K : Int) + 1 ∧ A' 6 (A 0 2) = bI (A 1 (srE (A 1) (A 0 1) (srq (A 1) (A 0 1) K)) = 47) ∧ srRead A A' (A 0 2) K))))) (D := 3) hd (Nat.le_of_ble_eq_true rfl) (fun r_ σ_ he hq => ?_) (fun d hd => V130_0 hd hΦ hR ?_)
  · obtain ⟨r, A', rfl, rfl, hq⟩ := hq
    exact ⟨r, A', he, hq⟩

  obtain ⟨h1, h2⟩ := hp
  refine ⟨fun c => ⟨-4, A, rfl, rfl, by decide, hR, fun _ => ⟨rfl, rfl⟩, fun q => absurd c q⟩, fun c => ⟨by omega, h2, fun r1 A1 hr1 hR1 hp0 => ?_⟩⟩
  obtain ⟨hF, K, hK9, hK, g1, g2⟩ := hp0
  have hF1 : SFr (A 0 2) [1, 2, 46] A (UA A1 0 1 0) := (show SFr (A 0 2) [1, 2, 46] A A1 from ⟨hF.1.mono (fun c h => h) (fun j h => by revert h; simp; omega), hF.2⟩).fld (by decide)
  have e02 : A1 0 2 = A 0 2 := hF.1.2 2 (by decide)
  refine ⟨fun q => ?_, fun q => ?_⟩
  · have hf : ¬ srFault (A 1) (A 0 1) K = -1 := fun q2 => by have := (g1 q2).1; omega
    obtain ⟨k1, k2⟩ := g2 hf
    have hb : -1 ≤ srFault (A 1) (A 0 1) K ∧ srFault (A 1) (A 0 1) K ≤ 1000 := by
      have qn := srq_n h2.1 K hK.1
      have n1 := nd_b (t := A 1) (n := A 0 1) (p := srq (A 1) (A 0 1) K + 1)
      unfold srFault srF srE
      (repeat' split) <;> omega
    rw [k2]
    exact ⟨by omega, _, _, rfl, rfl, by omega, rg_UA hR1 (by decide), fun q2 => absurd q2 c, fun _ => ⟨hF1, UA_eq, K, hK9, hK, fun _ => ⟨rfl, by rw [UA_j (by decide)]; exact e02⟩, fun q2 => absurd q2 hf⟩⟩
  · have hf : srFault (A 1) (A 0 1) K = -1 := Classical.byContradiction fun q2 => q (g2 q2).1
    obtain ⟨k1, k2, k3, k4⟩ := g1 hf
    refine L130 hd hΦ (A0 := A) (s := A 0 2) (rg_UA hR1 (by decide)) (by rw [UA_j (by decide)]; exact e02) (by omega) hK9 (by rw [UA_c (by decide)]; exact k2) (by rw [UA_c (by decide)]; exact k3) (fun j hj => by rw [UA_c (by decide), UA_c (by decide)]; exact k4 j hj) (fun q3 => ?_) (fun q3 => ?_) (K + 1) 0 (by omega)
    · exact ⟨_, _, rfl, rfl, by decide, rg_UA hR1 (by decide), fun q2 => absurd q2 c, fun _ => ⟨hF1, UA_eq, K, hK9, hK, fun q2 => absurd hf q2, fun _ => ⟨fun _ => ⟨rfl, by rw [UA_j (by decide)]; exact e02⟩, fun q4 => absurd q3 q4⟩⟩⟩
    · have hPb : 0 ≤ srPer (A 1) (A 0 1) K := sm_nn fun i _ => by have := cv_b (t := A 1) (n := A 0 1) (p := srq (A 1) (A 0 1) (i : Int).toNat + 1); split <;> omega
      refine ⟨_, _, rfl, rfl, by omega, rg_UA (rg_UA (rg_UA hR1 (by decide)) (by omega)) (by omega), fun q2 => absurd q2 c, fun _ => ⟨(hF1.row (by decide)).fld (by decide), by rw [UA_j (by decide), UA_c (by decide), UA_eq], K, hK9, hK, fun q2 => absurd hf q2, fun _ => ⟨fun q4 => absurd q4 q3, fun _ => ⟨by omega, UA_eq, by rw [UA_c (by decide), UA_eq], by rw [UA_c (by decide), UA_c (by decide), UA_c (by decide)]; exact k2, by rw [UA_c (by decide), UA_c (by decide), UA_c (by decide)]; exact k3, fun j hj => by rw [UA_c (by decide), UA_c (by decide), UA_c (by decide), UA_c (by decide), UA_c (by decide), UA_c (by decide)]; exact k4 j hj⟩⟩⟩⟩
