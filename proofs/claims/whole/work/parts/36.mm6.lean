/-- A' is A but for some rows and some fields -/
def Fr (rs : List Nat) (fs : List Int) (A A' : Nat → Int → Int) : Prop := (∀ c, c ∉ rs → ¬ c = 0 → A' c = A c) ∧ ∀ j, j ∉ fs → A' 0 j = A 0 j
theorem Fr.rf {rs : List Nat} {fs : List Int} {A : Nat → Int → Int} : Fr rs fs A A := ⟨fun _ _ _ => rfl, fun _ _ => rfl⟩
theorem Fr.tr {rs : List Nat} {fs : List Int} {A A' A'' : Nat → Int → Int} (h : Fr rs fs A A') (h' : Fr rs fs A' A'') : Fr rs fs A A'' := ⟨fun c h1 h2 => (h'.1 c h1 h2).trans (h.1 c h1 h2), fun j h1 => (h'.2 j h1).trans (h.2 j h1)⟩
theorem Fr.mono {rs rs' : List Nat} {fs fs' : List Int} {A A' : Nat → Int → Int} (h : Fr rs fs A A') (h1 : ∀ c, c ∈ rs → c ∈ rs') (h2 : ∀ j, j ∈ fs → j ∈ fs') : Fr rs' fs' A A' := ⟨fun c q1 q2 => h.1 c (fun q => q1 (h1 c q)) q2, fun j q => h.2 j (fun q' => q (h2 j q'))⟩
theorem Fr.row {rs : List Nat} {fs : List Int} {A A' : Nat → Int → Int} {c : Nat} {j v : Int} (h : Fr rs fs A A') (hc : c ∈ rs) (h0 : ¬ c = 0) : Fr rs fs A (UA A' c j v) := ⟨fun q q1 q2 => by
  rw [← h.1 q q1 q2]; funext i; exact UA_c (fun e => q1 (e ▸ hc)), fun q q1 => by rw [← h.2 q q1]; exact UA_c (fun e => h0 e.symm)⟩
theorem Fr.fld {rs : List Nat} {fs : List Int} {A A' : Nat → Int → Int} {j v : Int} (h : Fr rs fs A A') (hj : j ∈ fs) : Fr rs fs A (UA A' 0 j v) := ⟨fun q q1 q2 => by
  rw [← h.1 q q1 q2]; funext i; exact UA_c q2, fun q q1 => by rw [← h.2 q q1]; exact UA_j (fun e => q1 (e ▸ hj))⟩
def gE (f P size ap : Int) (fl : Int → Int → Bool) : Nat → Int → Int
  | 0, _ => 1000000
  | r + 1, i => if size < f + i * P + ap then 1000000 else if fl (f + i * P) ap = true then gE f P size ap fl r (i + 1) else f + i * P + ap
def gM (f : Int → Int) : Nat → Int
  | 0 => 1000000
  | m + 1 => if f ((m : Int) + 1) < gM f m then f ((m : Int) + 1) else gM f m
/-- the least USED from a pleat on, at a place; q pleats behind it -/
def gG (v size n : Int) (fl : Int → Int → Bool) (E : Int → Int) (st : Int → Int → Int) : Nat → Int → Int
  | 0, x => if size < x + v then 1000000 else if fl x v = true then 1000000 else E x
  | q + 1, x => if size < x + v then 1000000 else if fl x v = true then 1000000 else gM (fun m => if v < st (n - 2 - q) m then gG v size n fl E st q (x + st (n - 2 - q) m) else 1000000) 4
def yfx (A : Nat → Int → Int) (k P p : Int) : Int := if A 11 k = 5 then (if p = A 15 k - 2 then A 17 k else 0) else if A 11 k = 1 ∨ A 11 k = 3 then 0 else if A 11 k = 0 then A 17 k else A 17 k + P
def yst (A : Nat → Int → Int) (k P p m : Int) : Int := yfx A k P p + m_periods A k p m * P
def yE (A : Nat → Int → Int) (k b s x : Int) : Int := gE (lst (A 3 s) (x + A 17 k) ((A 18 k).tdiv 2) (m_centre A s 0)) (A 3 s) (A 8 b) (A 18 k) (m_isF A b) 4 0
def yG (A : Nat → Int → Int) (k b s : Int) : Nat → Int → Int := gG (A 17 k) (A 8 b) (A 15 k) (m_isF A b) (yE A k b s) (yst A k (A 3 s))
/-- what the search stands on -/
def LayC (A : Nat → Int → Int) (k b s : Int) : Prop := (0 ≤ k ∧ k < 8) ∧ (0 ≤ b ∧ b < 5) ∧ (0 ≤ s ∧ s < 5) ∧ A 0 32 = A 3 s ∧ (1 ≤ A 3 s ∧ A 3 s ≤ 400) ∧ (0 ≤ A 9 b ∧ A 9 b ≤ 10) ∧ (100 ≤ A 8 b ∧ A 8 b ≤ 9999) ∧ (4 ≤ A 15 k ∧ A 15 k ≤ 24) ∧ (1 ≤ A 17 k ∧ A 17 k ≤ 300) ∧ (0 ≤ A 18 k ∧ A 18 k ≤ 2400) ∧ (1 ≤ A 5 (10 * s) ∧ A 5 (10 * s) ≤ 999)
theorem LayC.fr {A A' : Nat → Int → Int} {k b s : Int} {rs : List Nat} {fs : List Int} (h : LayC A k b s) (hF : Fr rs fs A A') (h1 : ∀ c ∈ [3, 5, 8, 9, 15, 17, 18], c ∉ rs) (h2 : (32 : Int) ∉ fs) : LayC A' k b s := by
  unfold LayC at *
  rw [hF.2 32 h2, hF.1 3 (h1 3 (by decide)) (by decide), hF.1 5 (h1 5 (by decide)) (by decide), hF.1 8 (h1 8 (by decide)) (by decide), hF.1 9 (h1 9 (by decide)) (by decide), hF.1 15 (h1 15 (by decide)) (by decide), hF.1 17 (h1 17 (by decide)) (by decide), hF.1 18 (h1 18 (by decide)) (by decide)]
  exact h
theorem m_isF_c {A A' : Nat → Int → Int} (h9 : A' 9 = A 9) (h10 : A' 10 = A 10) : m_isF A' = m_isF A := by
  funext b x l; unfold m_isF m_fl; rw [h9, h10]
theorem m_centre_c {A A' : Nat → Int → Int} (h5 : A' 5 = A 5) : m_centre A' = m_centre A := by
  funext s k; unfold m_centre m_w; rw [h5]
theorem yst_c {A A' : Nat → Int → Int} (h11 : A' 11 = A 11) (h15 : A' 15 = A 15) (h17 : A' 17 = A 17) : yst A' = yst A := by
  funext k P p m; unfold yst yfx m_periods; rw [h11, h15, h17]
theorem yE_c {A A' : Nat → Int → Int} (h : ∀ c ∈ [3, 5, 8, 9, 10, 11, 15, 17, 18], A' c = A c) : yE A' = yE A := by
  funext k b s x; unfold yE; rw [m_isF_c (h 9 (by decide)) (h 10 (by decide)), m_centre_c (h 5 (by decide)), h 3 (by decide), h 8 (by decide), h 17 (by decide), h 18 (by decide)]
theorem yG_c {A A' : Nat → Int → Int} (h : ∀ c ∈ [3, 5, 8, 9, 10, 11, 15, 17, 18], A' c = A c) : yG A' = yG A := by
  funext k b s; unfold yG; rw [yE_c h, m_isF_c (h 9 (by decide)) (h 10 (by decide)), yst_c (h 11 (by decide)) (h 15 (by decide)) (h 17 (by decide)), h 3 (by decide), h 8 (by decide), h 15 (by decide), h 17 (by decide)]
theorem half_b {x M : Int} (h : 0 ≤ x ∧ x ≤ M) : 0 ≤ x.tdiv 2 ∧ x.tdiv 2 ≤ M := by rw [tdiv_pos h.1]; omega
theorem centre0_b {A : Nat → Int → Int} {s : Int} (h : 1 ≤ A 5 (10 * s) ∧ A 5 (10 * s) ≤ 999) : 0 ≤ m_centre A s 0 ∧ m_centre A s 0 ≤ 999 := by
  have e : m_centre A s 0 = 0 + (A 5 (10 * s + 0) - 1).tdiv 2 := rfl
  rw [e, Int.add_zero, tdiv_pos (by omega)]
  omega
theorem lst_b {P f a c : Int} (h : 1 ≤ P ∧ P ≤ 400) : f ≤ lst P f a c ∧ lst P f a c ≤ f + 399 := by
  have h2 := Int.emod_nonneg (c - a - f) (b := P) (by omega)
  have h3 := Int.emod_lt_of_pos (c - a - f) (b := P) (by omega)
  unfold lst; omega
theorem V155_0 {d : Nat} (hd : 1 ≤ d) {Q : Option Value → xM → Prop} {m : Nat} {Φ : (Nat → Nat → Int32) → xM} (hΦ : MLaw m Φ) {A : Nat → Int → Int} (hR : RG A) {x1 x2 x3 x4 : Int} (rr : Rg x1 ∧ Rg x2 ∧ Rg x3 ∧ Rg x4) (h : (0 ≤ x1 ∧ x1 < 8) ∧ (Rg (x4 + (A 17 x1))) ∧ (0 ≤ x3 ∧ x3 < 5) ∧ (0 ≤ (0 : Int) ∧ (0 : Int) < 10) ∧ (∀ k : Int, 0 ≤ k → k ≤ (0 : Int) → 0 ≤ A 5 (10 * x3 + k) ∧ A 5 (10 * x3 + k) ≤ 999) ∧ (Rg (m_centre A x3 0)) ∧ (0 < A 0 32 ∧ A 0 32 ≤ 400) ∧ (-100000000 ≤ (x4 + (A 17 x1)) ∧ (x4 + (A 17 x1)) ≤ 100000000) ∧ (0 ≤ ((A 18 x1).tdiv 2) ∧ ((A 18 x1).tdiv 2) ≤ 100000000) ∧ (0 ≤ (m_centre A x3 0) ∧ (m_centre A x3 0) ≤ 100000000) ∧ wpE (xT 155) (xev xT d) Q (32, [(0, .ref m), (1, .int (iz x1)), (2, .int (iz x2)), (5, .int (iz (lst (A 0 32) (x4 + (A 17 x1)) ((A 18 x1).tdiv 2) (m_centre A x3 0)))), (6, .int (iz 0))], [], Φ (mI A))) : wpE (xT 155) (xev xT d) Q (0, [(0, .ref m), (1, .int (iz x1)), (2, .int (iz x2)), (3, .int (iz x3)), (4, .int (iz x4))], [], Φ (mI A)) := by
  refine p_ald (cc3 c155_0) rfl ?_
  refine p_ild (cc3 c155_1) rfl ?_
  refine p_ald (cc3 c155_3) rfl ?_
  refine pm_getp hΦ (cc3 c155_4) (c := 17) rfl (by decide) ?_
  refine p_ild (cc3 c155_7) rfl ?_
  obtain ⟨g1, h⟩ := h
  refine n_aldi hΦ (c := 17) (n := 8) (ni := 8) (cc3 c155_8) (by decide) rfl rfl rfl (by decide) g1 (v := A 17 x1) rfl ?_
  obtain ⟨g2, h⟩ := h
  refine (fun _ : Rg (x4 + (A 17 x1)) => i_add (cc3 c155_9) ?_) g2
  refine p_ald (cc3 c155_10) rfl ?_
  refine pm_getp hΦ (cc3 c155_11) (c := 18) rfl (by decide) ?_
  refine p_ild (cc3 c155_14) rfl ?_
  refine n_aldi hΦ (c := 18) (n := 8) (ni := 8) (cc3 c155_15) (by decide) rfl rfl rfl (by decide) g1 (v := A 18 x1) rfl ?_
  refine i_push (n := 2) (cc3 c155_16) zl_2 ?_
  refine i_div (cc3 c155_17) (hR 18 x1) (by decide) ?_
  refine p_ald (cc3 c155_18) rfl ?_
  refine p_ild (cc3 c155_19) rfl ?_
  refine i_push (n := 0) (cc3 c155_20) zl_0 ?_
  obtain ⟨g3, h⟩ := h
  obtain ⟨g4, h⟩ := h
  obtain ⟨g5, h⟩ := h
  refine p_callV (cc3 c155_21) (Nat.le_of_ble_eq_true rfl) rfl rfl (Nat.le_of_ble_eq_true rfl) (ml_kd hΦ) (S137 (Nat.le_trans (by decide) hd) hΦ hR ⟨rr.2.2.1, (by decide)⟩ ⟨g3, g4, g5⟩) ?_
  obtain ⟨g6, h⟩ := h
  obtain ⟨g7, h⟩ := h
  obtain ⟨g8, h⟩ := h
  obtain ⟨g9, h⟩ := h
  obtain ⟨g10, h⟩ := h
  refine p_callV (cc3 c155_24) (Nat.le_of_ble_eq_true rfl) rfl rfl (Nat.le_of_ble_eq_true rfl) (ml_kd hΦ) (S152 (Nat.le_trans (by decide) hd) hΦ hR ⟨g2, (rg_tdiv (hR 18 x1) (by decide : 0 < (2 : Int) ∧ (2 : Int) ≤ 2147483647).1), g6⟩ ⟨g7, g8, g9, g10⟩) ?_
  refine p_ist (ls' := [(5, .int (iz (lst (A 0 32) (x4 + (A 17 x1)) ((A 18 x1).tdiv 2) (m_centre A x3 0)))), (0, .ref m), (1, .int (iz x1)), (2, .int (iz x2)), (3, .int (iz x3)), (4, .int (iz x4))]) (cc3 c155_27) (by decide) rfl ?_
  refine i_push (n := 0) (cc3 c155_29) zl_0 ?_
  refine p_ist (ls' := [(6, .int (iz 0)), (5, .int (iz (lst (A 0 32) (x4 + (A 17 x1)) ((A 18 x1).tdiv 2) (m_centre A x3 0)))), (0, .ref m), (1, .int (iz x1)), (2, .int (iz x2)), (3, .int (iz x3)), (4, .int (iz x4))]) (cc3 c155_30) (by decide) rfl ?_
  exact p_lc (ls' := [(0, .ref m), (1, .int (iz x1)), (2, .int (iz x2)), (5, .int (iz (lst (A 0 32) (x4 + (A 17 x1)) ((A 18 x1).tdiv 2) (m_centre A x3 0)))), (6, .int (iz 0))]) c155_32 rfl rfl h
theorem V155_32 {d : Nat} (hd : 1 ≤ d) {Q : Option Value → xM → Prop} {m : Nat} {Φ : (Nat → Nat → Int32) → xM} (hΦ : MLaw m Φ) {A : Nat → Int → Int} (hR : RG A) {x1 x2 x5 x6 : Int} (rr : Rg x1 ∧ Rg x2 ∧ Rg x5 ∧ Rg x6) (h : (((4 ≤ x6) → Q (some (.int (iz 1000000))) (Φ (mI A))) ∧ (¬ (4 ≤ x6) → (Rg (x6 * (A 0 32))) ∧ (Rg (x5 + (x6 * (A 0 32)))) ∧ (0 ≤ x1 ∧ x1 < 8) ∧ (Rg ((x5 + (x6 * (A 0 32))) + (A 18 x1))) ∧ (0 ≤ x2 ∧ x2 < 5) ∧ (((((x5 + (x6 * (A 0 32))) + (A 18 x1)) ≤ (A 8 x2)) → (0 ≤ A 9 x2 ∧ A 9 x2 ≤ 10) ∧ ((¬ (m_isF A x2 (x5 + (x6 * (A 0 32))) (A 18 x1) = true) → Q (some (.int (iz ((x5 + (x6 * (A 0 32))) + (A 18 x1))))) (Φ (mI (UA A 0 36 x6)))) ∧ ((m_isF A x2 (x5 + (x6 * (A 0 32))) (A 18 x1) = true) → (Rg (x6 + 1)) ∧ wpE (xT 155) (xev xT d) Q (32, [(0, .ref m), (1, .int (iz x1)), (2, .int (iz x2)), (5, .int (iz x5)), (6, .int (iz (x6 + 1)))], [], Φ (mI (UA A 0 36 x6)))))) ∧ (¬ (((x5 + (x6 * (A 0 32))) + (A 18 x1)) ≤ (A 8 x2)) → Q (some (.int (iz 1000000))) (Φ (mI (UA A 0 36 x6)))))))) : wpE (xT 155) (xev xT d) Q (32, [(0, .ref m), (1, .int (iz x1)), (2, .int (iz x2)), (5, .int (iz x5)), (6, .int (iz x6))], [], Φ (mI A)) := by
  refine p_ild (cct c155_32 rfl) rfl ?_
  refine i_push (n := 4) (cc3 c155_34) zl_4 ?_
  refine i_icmp (c' := 4 ≤ x6) (cc3 c155_35) (iz_le (by decide) rr.2.2.2) (fun c => ?_) (fun c => ?_)
  · have h := h.1 c
    refine i_push (n := 1000000) (cc3 c155_109) zl_1000000 ?_
    exact p_ri (cc3 c155_111) trivial h
  · have h := h.2 c
    refine p_ild (cc3 c155_38) rfl ?_
    refine p_ild (cc3 c155_40) rfl ?_
    refine p_ald (cc3 c155_42) rfl ?_
    refine n_geti hΦ (v := A 0 32) (cc3 c155_43) (ji := 32) rfl rfl ?_
    obtain ⟨g1, h⟩ := h
    refine (fun _ : Rg (x6 * (A 0 32)) => i_mul (cc3 c155_46) ?_) g1
    obtain ⟨g2, h⟩ := h
    refine (fun _ : Rg (x5 + (x6 * (A 0 32))) => i_add (cc3 c155_47) ?_) g2
    refine p_ist (ls' := [(7, .int (iz (x5 + (x6 * (A 0 32))))), (0, .ref m), (1, .int (iz x1)), (2, .int (iz x2)), (5, .int (iz x5)), (6, .int (iz x6))]) (cc3 c155_48) (by decide) rfl ?_
    refine p_ald (cc3 c155_50) rfl ?_
    refine p_ild (cc3 c155_51) rfl ?_
    refine (fun _ : Rg x6 => n_puti hΦ (cc3 c155_53) (ji := 36) rfl ?_) rr.2.2.2
    refine p_ild (cc3 c155_56) rfl ?_
    refine p_ald (cc3 c155_58) rfl ?_
    refine pm_getp hΦ (cc3 c155_59) (c := 18) rfl (by decide) ?_
    refine p_ild (cc3 c155_62) rfl ?_
    obtain ⟨g3, h⟩ := h
    refine n_aldi hΦ (c := 18) (n := 8) (ni := 8) (cc3 c155_63) (by decide) rfl rfl rfl (by decide) g3 (v := A 18 x1) (by first | rfl | exact UA_eq | simp [UA]) ?_
    obtain ⟨g4, h⟩ := h
    refine (fun _ : Rg ((x5 + (x6 * (A 0 32))) + (A 18 x1)) => i_add (cc3 c155_64) ?_) g4
    refine p_ald (cc3 c155_65) rfl ?_
    refine pm_getp hΦ (cc3 c155_66) (c := 8) rfl (by decide) ?_
    refine p_ild (cc3 c155_69) rfl ?_
    obtain ⟨g5, h⟩ := h
    refine n_aldi hΦ (c := 8) (n := 5) (ni := 5) (cc3 c155_70) (by decide) rfl rfl rfl (by decide) g5 (v := A 8 x2) (by first | rfl | exact UA_eq | simp [UA]) ?_
    refine i_icmp (c' := ((x5 + (x6 * (A 0 32))) + (A 18 x1)) ≤ (A 8 x2)) (cc3 c155_71) (iz_le g4 (hR 8 x2)) (fun c => ?_) (fun c => ?_)
    · have h := h.1 c
      refine p_ald (cc3 c155_77) rfl ?_
      refine p_ild (cc3 c155_78) rfl ?_
      refine p_ild (cc3 c155_79) rfl ?_
      refine p_ald (cc3 c155_81) rfl ?_
      refine pm_getp hΦ (cc3 c155_82) (c := 18) rfl (by decide) ?_
      refine p_ild (cc3 c155_85) rfl ?_
      refine n_aldi hΦ (c := 18) (n := 8) (ni := 8) (cc3 c155_86) (by decide) rfl rfl rfl (by decide) g3 (v := A 18 x1) (by first | rfl | exact UA_eq | simp [UA]) ?_
      obtain ⟨g6, h⟩ := h
      refine p_callV (cc3 c155_87) (Nat.le_of_ble_eq_true rfl) rfl rfl (Nat.le_of_ble_eq_true rfl) (ml_kd hΦ) (S144 (Nat.le_trans (by decide) hd) hΦ (rg_UA hR rr.2.2.2) ⟨rr.2.1, g2, (hR 18 x1)⟩ ⟨g5, g6, g4⟩) ?_
      refine i_ifB (cc3 c155_90) (fun c => ?_) (fun c => ?_)
      · have h := h.1 c
        refine p_ild (cc3 c155_93) rfl ?_
        refine p_ald (cc3 c155_95) rfl ?_
        refine pm_getp hΦ (cc3 c155_96) (c := 18) rfl (by decide) ?_
        refine p_ild (cc3 c155_99) rfl ?_
        refine n_aldi hΦ (c := 18) (n := 8) (ni := 8) (cc3 c155_100) (by decide) rfl rfl rfl (by decide) g3 (v := A 18 x1) (by first | rfl | exact UA_eq | simp [UA]) ?_
        refine (fun _ : Rg ((x5 + (x6 * (A 0 32))) + (A 18 x1)) => i_add (cc3 c155_101) ?_) g4
        exact p_ri (cc3 c155_102) trivial h
      · have h := h.2 c
        obtain ⟨g7, h⟩ := h
        refine (fun _ : Rg (x6 + 1) => i_iinc (n := 1) (y := x6 + 1) (ls' := [(6, .int (iz (x6 + 1))), (7, .int (iz (x5 + (x6 * (A 0 32))))), (0, .ref m), (1, .int (iz x1)), (2, .int (iz x2)), (5, .int (iz x5))]) (cc3 c155_103) (by decide) rfl zl_1 (by first | rfl | omega) rfl ?_) g7
        refine p_goto (cc3 c155_106) ?_
        exact p_lc (ls' := [(0, .ref m), (1, .int (iz x1)), (2, .int (iz x2)), (5, .int (iz x5)), (6, .int (iz (x6 + 1)))]) c155_32 rfl rfl h
    · have h := h.2 c
      refine i_push (n := 1000000) (cc3 c155_74) zl_1000000 ?_
      exact p_ri (cc3 c155_76) trivial h

theorem L155 {d : Nat} (hd : 1 ≤ d) {Q : Option Value → xM → Prop} {m : Nat} {Φ : (Nat → Nat → Int32) → xM} (hΦ : MLaw m Φ) {A0 : Nat → Int → Int} {k b s f V : Int} (hL : LayC A0 k b s) (hf : 0 ≤ f ∧ f ≤ 300000) (hQ : ∀ A', RG A' → Fr [] [36] A0 A' → Q (some (.int (iz V))) (Φ (mI A'))) :
    ∀ (r : Nat) (i : Int) (A : Nat → Int → Int), 0 ≤ i → i + r = 4 → RG A → Fr [] [36] A0 A → gE f (A0 3 s) (A0 8 b) (A0 18 k) (m_isF A0 b) r i = V → wpE (xT 155) (xev xT d) Q (32, [(0, .ref m), (1, .int (iz k)), (2, .int (iz b)), (5, .int (iz f)), (6, .int (iz i))], [], Φ (mI A)) := by
  intro r
  induction r with
  | zero =>
    intro i A h0 h1 hR hF he
    refine V155_32 hd hΦ hR (by obtain ⟨a1, a2, -⟩ := hL; omega) ?_
    refine ⟨fun _ => ?_, fun h => absurd (show 4 ≤ i by omega) h⟩
    have := hQ A hR hF
    rw [← he] at this
    exact this
  | succ r ih =>
    intro i A h0 h1 hR hF he
    have hLA := hL.fr hF (by decide) (by decide)
    obtain ⟨a1, a2, a3, a4, a5, a6, a7, a8, a9, a10, a11⟩ := hLA
    have e3 : A 3 = A0 3 := hF.1 3 (by decide) (by decide)
    have e8 : A 8 = A0 8 := hF.1 8 (by decide) (by decide)
    have e18 : A 18 = A0 18 := hF.1 18 (by decide) (by decide)
    have eF : m_isF A = m_isF A0 := m_isF_c (hF.1 9 (by decide) (by decide)) (hF.1 10 (by decide) (by decide))
    have b1 := mul_b (a := i) (b := A 3 s) (M := 4) (N := 400) (by omega) (by omega) (by omega) (by omega)
    have hU : ∀ v : Int, Rg v → RG (UA A 0 36 v) ∧ Fr [] [36] A0 (UA A 0 36 v) := fun v hv => ⟨rg_UA hR hv, hF.fld (by decide)⟩
    unfold gE at he
    rw [← e3, ← e8, ← e18, ← eF] at he
    refine V155_32 hd hΦ hR (by omega) ?_
    rw [a4]
    refine ⟨fun h => absurd h (by omega), fun _ => ⟨by omega, by omega, by omega, by omega, by omega, fun c1 => ⟨by omega, fun c2 => ?_, fun c2 => ⟨by omega, ?_⟩⟩, fun c1 => ?_⟩⟩
    · rw [if_neg (by omega), if_neg c2] at he
      have := hQ _ (hU i (by omega)).1 (hU i (by omega)).2
      rw [← he] at this
      exact this
    · rw [if_neg (by omega), if_pos c2] at he
      refine ih (i + 1) _ (by omega) (by omega) (hU i (by omega)).1 (hU i (by omega)).2 ?_
      rw [← e3, ← e8, ← e18, ← eF]
      exact he
    · rw [if_pos (by omega)] at he
      have := hQ _ (hU i (by omega)).1 (hU i (by omega)).2
      rw [← he] at this
      exact this
theorem S155 {d : Nat} (hd : 2 ≤ d) {m : Nat} {Φ : (Nat → Nat → Int32) → xM} (hΦ : MLaw m Φ) {A : Nat → Int → Int} (hR : RG A) {x1 x2 x3 x4 : Int} (rr : Rg x1 ∧ Rg x2 ∧ Rg x3 ∧ Rg x4) (hp : (LayC A x1 x2 x3) ∧ (0 ≤ x4 ∧ x4 ≤ 200000)) : ∃ (r : Int) (A' : Nat → Int → Int), xev xT d 155 [.ref m, .int (iz x1), .int (iz x2), .int (iz x3), .int (iz x4)] (Φ (mI A)) (some (.int (iz r))) (Φ (mI A')) ∧ Rg r ∧ RG A' ∧ (r = yE A x1 x2 x3 x4 ∧ Fr [] [36] A A') := by
  refine xev_g (i := 155) (as := [.ref m, .int (iz x1), .int (iz x2), .int (iz x3), .int (iz x4)]) (σ := Φ (mI A)) (Q := fun r_ σ_ => ∃ (r : Int) (A' : Nat → Int → Int), r_ = (some (.int (iz r))) ∧ σ_ = Φ (mI A') ∧ Rg r ∧ RG A' ∧ (r = yE A x1 x2 x3 x4 ∧ Fr [] [36] A A')) (D := 1) hd (Nat.le_of_ble_eq_true rfl) (fun r_ σ_ he hq => ?_) (fun d hd => V155_0 hd hΦ hR rr ?_)
  · obtain ⟨r, A', rfl, rfl, hq⟩ := hq
    exact ⟨r, A', he, hq⟩

  have hL := hp.1
  obtain ⟨a1, a2, a3, a4, a5, a6, a7, a8, a9, a10, a11⟩ := hp.1
  have b1 := half_b a10
  have b2 := centre0_b a11
  have b3 := lst_b (P := A 3 x3) (f := x4 + A 17 x1) (a := (A 18 x1).tdiv 2) (c := m_centre A x3 0) a5
  rw [a4]
  have hk : ∀ q : Int, 0 ≤ q → q ≤ 0 → 0 ≤ A 5 (10 * x3 + q) ∧ A 5 (10 * x3 + q) ≤ 999 := fun q q1 q2 => by
    rw [show q = 0 by omega, Int.add_zero]; omega
  refine ⟨by omega, by omega, by omega, by omega, hk, by omega, by omega, by omega, by omega, by omega, ?_⟩
  refine L155 hd hΦ hL (by omega) (fun A' hR' hF' => ?_) 4 0 A (Int.le_refl 0) rfl hR Fr.rf rfl
  refine ⟨_, A', rfl, rfl, ?_, hR', rfl, hF'⟩
  have key : ∀ (r : Nat) (i : Int), 0 ≤ i → i + r = 4 → Rg (gE (lst (A 3 x3) (x4 + A 17 x1) ((A 18 x1).tdiv 2) (m_centre A x3 0)) (A 3 x3) (A 8 x2) (A 18 x1) (m_isF A x2) r i) := fun r => by
    induction r with
    | zero => intro i _ _; unfold gE; decide
    | succ r ih =>
      intro i h1 h2
      have b1 := mul_b (a := i) (b := A 3 x3) (M := 4) (N := 400) (by omega) (by omega) (by omega) (by omega)
      unfold gE
      split
      · decide
      · split
        · exact ih (i + 1) (by omega) (by omega)
        · omega
  exact key 4 0 (Int.le_refl 0) rfl
