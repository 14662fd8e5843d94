theorem V178_0 {d : Nat} (hd : 3 ≤ d) {Q : Option Value → xM → Prop} {m : Nat} {Φ : (Nat → Nat → Int32) → xM} (hΦ : MLaw m Φ) {A : Nat → Int → Int} (hR : RG A) (h : (0 ≤ (A 0 55) ∧ (A 0 55) < 12) ∧ wpE (xT 178) (xev xT d) Q (36, [(0, .ref m), (1, .int (iz 1)), (2, .int (iz 1))], [], Φ (mI (UA (UA (UA (UA (UA A 0 52 0) 0 53 0) 0 54 0) 33 (A 0 55) 0) 36 0 0)))) : wpE (xT 178) (xev xT d) Q (0, [(0, .ref m)], [], Φ (mI A)) := by
  refine p_ald (cc3 c178_0) rfl ?_
  refine i_push (n := 0) (cc3 c178_1) zl_0 ?_
  refine (fun _ : Rg 0 => n_puti hΦ (cc3 c178_2) (ji := 52) rfl ?_) (by decide)
  refine p_ald (cc3 c178_5) rfl ?_
  refine i_push (n := 0) (cc3 c178_6) zl_0 ?_
  refine (fun _ : Rg 0 => n_puti hΦ (cc3 c178_7) (ji := 53) rfl ?_) (by decide)
  refine p_ald (cc3 c178_10) rfl ?_
  refine i_push (n := 0) (cc3 c178_11) zl_0 ?_
  refine (fun _ : Rg 0 => n_puti hΦ (cc3 c178_12) (ji := 54) rfl ?_) (by decide)
  refine p_ald (cc3 c178_15) rfl ?_
  refine pm_getp hΦ (cc3 c178_16) (c := 33) rfl (by decide) ?_
  refine p_ald (cc3 c178_19) rfl ?_
  refine n_geti hΦ (v := A 0 55) (cc3 c178_20) (ji := 55) rfl rfl ?_
  refine i_push (n := 0) (cc3 c178_23) zl_0 ?_
  obtain ⟨g1, h⟩ := h
  refine id (α := Rg 0 → _) (fun _ => ?_) (by decide); refine n_asti hΦ (c := 33) (n := 12) (ni := 12) (hv := rfl) (cc3 c178_24) (by decide) rfl rfl rfl (by decide) g1 ?_
  refine p_ald (cc3 c178_25) rfl ?_
  refine pm_getp hΦ (cc3 c178_26) (c := 36) rfl (by decide) ?_
  refine i_push (n := 0) (cc3 c178_29) zl_0 ?_
  refine i_push (n := 0) (cc3 c178_30) zl_0 ?_
  refine id (α := Rg 0 → _) (fun _ => ?_) (by decide); (first | refine n_asti hΦ (c := 36) (n := 7) (ni := 7) (hv := (vnarB (by decide))) (cc3 c178_31) (by decide) rfl rfl rfl (by decide) (by decide) ?_)
  refine i_push (n := 1) (cc3 c178_32) zl_1 ?_
  refine p_ist (ls' := [(1, .int (iz 1)), (0, .ref m)]) (cc3 c178_33) (by decide) rfl ?_
  refine i_push (n := 1) (cc3 c178_34) zl_1 ?_
  refine p_ist (ls' := [(2, .int (iz 1)), (1, .int (iz 1)), (0, .ref m)]) (cc3 c178_35) (by decide) rfl ?_
  exact p_lc (ls' := [(0, .ref m), (1, .int (iz 1)), (2, .int (iz 1))]) c178_36 rfl rfl h
theorem V178_36 {d : Nat} (hd : 3 ≤ d) {Q : Option Value → xM → Prop} {m : Nat} {Φ : (Nat → Nat → Int32) → xM} (hΦ : MLaw m Φ) {A : Nat → Int → Int} (hR : RG A) {x1 x2 : Int} (rr : Rg x1 ∧ Rg x2) (h : (((x1 = 0) → ((¬ (A 0 47 = 4 ∧ A 0 48 = 59) → ((¬ (A 0 47 = 4 ∧ A 0 48 = 41) → (Rg (m_signOf A)) ∧ ((((m_signOf A) = 0) → Q (some (.int (iz 0))) (Φ (mI A))) ∧ (¬ ((m_signOf A) = 0) → ((((m_rank (m_signOf A)) = 4) → (0 ≤ (A 0 53) ∧ (A 0 53) < 7) ∧ ((((A 36 (A 0 53)) = 0) → ((((m_rank (m_signOf A)) = 4) → (1 ≤ (m_rank (m_signOf A)) ∧ (m_rank (m_signOf A)) ≤ 7) ∧ (0 ≤ (A 0 52) ∧ (A 0 52) ≤ 161) ∧ (0 ≤ (A 0 55) ∧ (A 0 55) < 12) ∧ (0 ≤ (A 33 (A 0 55)) ∧ (A 33 (A 0 55)) + (A 0 52) ≤ 160) ∧ (cntO (popR (m_rank (m_signOf A)) (wts (UA A 36 (A 0 53) 1))) ≤ (A 0 54) ∧ (A 0 54) ≤ 5) ∧ (∀ (A_1 : Nat → Int → Int), RG A_1 → (SetP (m_rank (m_signOf A)) (UA A 36 (A 0 53) 1) A_1) → (0 ≤ A_1 0 52 ∧ A_1 0 52 < 161) ∧ (0 ≤ A_1 0 54 ∧ A_1 0 54 ≤ 5) ∧ (((3 ≤ (m_rank (m_signOf A))) → (TapeB ((m_hold A_1 (m_signOf A)) 1)) ∧ (0 ≤ (m_hold A_1 (m_signOf A)) 0 46) ∧ ((m_hold A_1 (m_signOf A)) 0 46 ≤ (m_hold A_1 (m_signOf A)) 0 1) ∧ ((m_hold A_1 (m_signOf A)) 0 1 ≤ 160) ∧ (∀ (A_2 : Nat → Int → Int), RG A_2 → (Fr [] [46, 47, 48, 49] (m_hold A_1 (m_signOf A)) A_2 ∧ Cur A_2 ((m_hold A_1 (m_signOf A)) 1) ((m_hold A_1 (m_signOf A)) 0 1) ((m_hold A_1 (m_signOf A)) 0 46)) → wpE (xT 178) (xev xT d) Q (36, [(0, .ref m), (1, .int (iz 1)), (2, .int (iz 0))], [], Φ (mI A_2)))) ∧ (¬ (3 ≤ (m_rank (m_signOf A))) → (TapeB ((m_hold A_1 (m_signOf A)) 1)) ∧ (0 ≤ (m_hold A_1 (m_signOf A)) 0 46) ∧ ((m_hold A_1 (m_signOf A)) 0 46 ≤ (m_hold A_1 (m_signOf A)) 0 1) ∧ ((m_hold A_1 (m_signOf A)) 0 1 ≤ 160) ∧ (∀ (A_2 : Nat → Int → Int), RG A_2 → (Fr [] [46, 47, 48, 49] (m_hold A_1 (m_signOf A)) A_2 ∧ Cur A_2 ((m_hold A_1 (m_signOf A)) 1) ((m_hold A_1 (m_signOf A)) 0 1) ((m_hold A_1 (m_signOf A)) 0 46)) → wpE (xT 178) (xev xT d) Q (36, [(0, .ref m), (1, .int (iz 1)), (2, .int (iz 1))], [], Φ (mI A_2))))))) ∧ (¬ ((m_rank (m_signOf A)) = 4) → ((((m_rank (m_signOf A)) ≤ 2) → (1 ≤ (m_rank (m_signOf A)) ∧ (m_rank (m_signOf A)) ≤ 7) ∧ (0 ≤ (A 0 52) ∧ (A 0 52) ≤ 161) ∧ (0 ≤ (A 0 55) ∧ (A 0 55) < 12) ∧ (0 ≤ (A 33 (A 0 55)) ∧ (A 33 (A 0 55)) + (A 0 52) ≤ 160) ∧ (cntO (popR (m_rank (m_signOf A)) (wts (UA A 36 (A 0 53) 0))) ≤ (A 0 54) ∧ (A 0 54) ≤ 5) ∧ (∀ (A_1 : Nat → Int → Int), RG A_1 → (SetP (m_rank (m_signOf A)) (UA A 36 (A 0 53) 0) A_1) → (0 ≤ A_1 0 52 ∧ A_1 0 52 < 161) ∧ (0 ≤ A_1 0 54 ∧ A_1 0 54 ≤ 5) ∧ (((3 ≤ (m_rank (m_signOf A))) → (TapeB ((m_hold A_1 (m_signOf A)) 1)) ∧ (0 ≤ (m_hold A_1 (m_signOf A)) 0 46) ∧ ((m_hold A_1 (m_signOf A)) 0 46 ≤ (m_hold A_1 (m_signOf A)) 0 1) ∧ ((m_hold A_1 (m_signOf A)) 0 1 ≤ 160) ∧ (∀ (A_2 : Nat → Int → Int), RG A_2 → (Fr [] [46, 47, 48, 49] (m_hold A_1 (m_signOf A)) A_2 ∧ Cur A_2 ((m_hold A_1 (m_signOf A)) 1) ((m_hold A_1 (m_signOf A)) 0 1) ((m_hold A_1 (m_signOf A)) 0 46)) → wpE (xT 178) (xev xT d) Q (36, [(0, .ref m), (1, .int (iz 1)), (2, .int (iz 0))], [], Φ (mI A_2)))) ∧ (¬ (3 ≤ (m_rank (m_signOf A))) → (TapeB ((m_hold A_1 (m_signOf A)) 1)) ∧ (0 ≤ (m_hold A_1 (m_signOf A)) 0 46) ∧ ((m_hold A_1 (m_signOf A)) 0 46 ≤ (m_hold A_1 (m_signOf A)) 0 1) ∧ ((m_hold A_1 (m_signOf A)) 0 1 ≤ 160) ∧ (∀ (A_2 : Nat → Int → Int), RG A_2 → (Fr [] [46, 47, 48, 49] (m_hold A_1 (m_signOf A)) A_2 ∧ Cur A_2 ((m_hold A_1 (m_signOf A)) 1) ((m_hold A_1 (m_signOf A)) 0 1) ((m_hold A_1 (m_signOf A)) 0 46)) → wpE (xT 178) (xev xT d) Q (36, [(0, .ref m), (1, .int (iz 1)), (2, .int (iz 1))], [], Φ (mI A_2))))))) ∧ (¬ ((m_rank (m_signOf A)) ≤ 2) → ((((A 36 (A 0 53)) = 0) → (1 ≤ (m_rank (m_signOf A)) ∧ (m_rank (m_signOf A)) ≤ 7) ∧ (0 ≤ (A 0 52) ∧ (A 0 52) ≤ 161) ∧ (0 ≤ (A 0 55) ∧ (A 0 55) < 12) ∧ (0 ≤ (A 33 (A 0 55)) ∧ (A 33 (A 0 55)) + (A 0 52) ≤ 160) ∧ (cntO (popR (m_rank (m_signOf A)) (wts (UA A 36 (A 0 53) 0))) ≤ (A 0 54) ∧ (A 0 54) ≤ 5) ∧ (∀ (A_1 : Nat → Int → Int), RG A_1 → (SetP (m_rank (m_signOf A)) (UA A 36 (A 0 53) 0) A_1) → (0 ≤ A_1 0 52 ∧ A_1 0 52 < 161) ∧ (0 ≤ A_1 0 54 ∧ A_1 0 54 ≤ 5) ∧ (((3 ≤ (m_rank (m_signOf A))) → (TapeB ((m_hold A_1 (m_signOf A)) 1)) ∧ (0 ≤ (m_hold A_1 (m_signOf A)) 0 46) ∧ ((m_hold A_1 (m_signOf A)) 0 46 ≤ (m_hold A_1 (m_signOf A)) 0 1) ∧ ((m_hold A_1 (m_signOf A)) 0 1 ≤ 160) ∧ (∀ (A_2 : Nat → Int → Int), RG A_2 → (Fr [] [46, 47, 48, 49] (m_hold A_1 (m_signOf A)) A_2 ∧ Cur A_2 ((m_hold A_1 (m_signOf A)) 1) ((m_hold A_1 (m_signOf A)) 0 1) ((m_hold A_1 (m_signOf A)) 0 46)) → wpE (xT 178) (xev xT d) Q (36, [(0, .ref m), (1, .int (iz 1)), (2, .int (iz 0))], [], Φ (mI A_2)))) ∧ (¬ (3 ≤ (m_rank (m_signOf A))) → (TapeB ((m_hold A_1 (m_signOf A)) 1)) ∧ (0 ≤ (m_hold A_1 (m_signOf A)) 0 46) ∧ ((m_hold A_1 (m_signOf A)) 0 46 ≤ (m_hold A_1 (m_signOf A)) 0 1) ∧ ((m_hold A_1 (m_signOf A)) 0 1 ≤ 160) ∧ (∀ (A_2 : Nat → Int → Int), RG A_2 → (Fr [] [46, 47, 48, 49] (m_hold A_1 (m_signOf A)) A_2 ∧ Cur A_2 ((m_hold A_1 (m_signOf A)) 1) ((m_hold A_1 (m_signOf A)) 0 1) ((m_hold A_1 (m_signOf A)) 0 46)) → wpE (xT 178) (xev xT d) Q (36, [(0, .ref m), (1, .int (iz 1)), (2, .int (iz 1))], [], Φ (mI A_2))))))) ∧ (¬ ((A 36 (A 0 53)) = 0) → (1 ≤ (m_rank (m_signOf A)) ∧ (m_rank (m_signOf A)) ≤ 7) ∧ (0 ≤ (A 0 52) ∧ (A 0 52) ≤ 161) ∧ (0 ≤ (A 0 55) ∧ (A 0 55) < 12) ∧ (0 ≤ (A 33 (A 0 55)) ∧ (A 33 (A 0 55)) + (A 0 52) ≤ 160) ∧ (cntO (popR (m_rank (m_signOf A)) (wts (UA A 36 (A 0 53) 1))) ≤ (A 0 54) ∧ (A 0 54) ≤ 5) ∧ (∀ (A_1 : Nat → Int → Int), RG A_1 → (SetP (m_rank (m_signOf A)) (UA A 36 (A 0 53) 1) A_1) → (0 ≤ A_1 0 52 ∧ A_1 0 52 < 161) ∧ (0 ≤ A_1 0 54 ∧ A_1 0 54 ≤ 5) ∧ (((3 ≤ (m_rank (m_signOf A))) → (TapeB ((m_hold A_1 (m_signOf A)) 1)) ∧ (0 ≤ (m_hold A_1 (m_signOf A)) 0 46) ∧ ((m_hold A_1 (m_signOf A)) 0 46 ≤ (m_hold A_1 (m_signOf A)) 0 1) ∧ ((m_hold A_1 (m_signOf A)) 0 1 ≤ 160) ∧ (∀ (A_2 : Nat → Int → Int), RG A_2 → (Fr [] [46, 47, 48, 49] (m_hold A_1 (m_signOf A)) A_2 ∧ Cur A_2 ((m_hold A_1 (m_signOf A)) 1) ((m_hold A_1 (m_signOf A)) 0 1) ((m_hold A_1 (m_signOf A)) 0 46)) → wpE (xT 178) (xev xT d) Q (36, [(0, .ref m), (1, .int (iz 1)), (2, .int (iz 0))], [], Φ (mI A_2)))) ∧ (¬ (3 ≤ (m_rank (m_signOf A))) → (TapeB ((m_hold A_1 (m_signOf A)) 1)) ∧ (0 ≤ (m_hold A_1 (m_signOf A)) 0 46) ∧ ((m_hold A_1 (m_signOf A)) 0 46 ≤ (m_hold A_1 (m_signOf A)) 0 1) ∧ ((m_hold A_1 (m_signOf A)) 0 1 ≤ 160) ∧ (∀ (A_2 : Nat → Int → Int), RG A_2 → (Fr [] [46, 47, 48, 49] (m_hold A_1 (m_signOf A)) A_2 ∧ Cur A_2 ((m_hold A_1 (m_signOf A)) 1) ((m_hold A_1 (m_signOf A)) 0 1) ((m_hold A_1 (m_signOf A)) 0 46)) → wpE (xT 178) (xev xT d) Q (36, [(0, .ref m), (1, .int (iz 1)), (2, .int (iz 1))], [], Φ (mI A_2))))))))))))) ∧ (¬ ((A 36 (A 0 53)) = 0) → Q (some (.int (iz 0))) (Φ (mI A))))) ∧ (¬ ((m_rank (m_signOf A)) = 4) → ((((m_rank (m_signOf A)) = 4) → (0 ≤ (A 0 53) ∧ (A 0 53) < 7) ∧ (1 ≤ (m_rank (m_signOf A)) ∧ (m_rank (m_signOf A)) ≤ 7) ∧ (0 ≤ (A 0 52) ∧ (A 0 52) ≤ 161) ∧ (0 ≤ (A 0 55) ∧ (A 0 55) < 12) ∧ (0 ≤ (A 33 (A 0 55)) ∧ (A 33 (A 0 55)) + (A 0 52) ≤ 160) ∧ (cntO (popR (m_rank (m_signOf A)) (wts (UA A 36 (A 0 53) 1))) ≤ (A 0 54) ∧ (A 0 54) ≤ 5) ∧ (∀ (A_1 : Nat → Int → Int), RG A_1 → (SetP (m_rank (m_signOf A)) (UA A 36 (A 0 53) 1) A_1) → (0 ≤ A_1 0 52 ∧ A_1 0 52 < 161) ∧ (0 ≤ A_1 0 54 ∧ A_1 0 54 ≤ 5) ∧ (((3 ≤ (m_rank (m_signOf A))) → (TapeB ((m_hold A_1 (m_signOf A)) 1)) ∧ (0 ≤ (m_hold A_1 (m_signOf A)) 0 46) ∧ ((m_hold A_1 (m_signOf A)) 0 46 ≤ (m_hold A_1 (m_signOf A)) 0 1) ∧ ((m_hold A_1 (m_signOf A)) 0 1 ≤ 160) ∧ (∀ (A_2 : Nat → Int → Int), RG A_2 → (Fr [] [46, 47, 48, 49] (m_hold A_1 (m_signOf A)) A_2 ∧ Cur A_2 ((m_hold A_1 (m_signOf A)) 1) ((m_hold A_1 (m_signOf A)) 0 1) ((m_hold A_1 (m_signOf A)) 0 46)) → wpE (xT 178) (xev xT d) Q (36, [(0, .ref m), (1, .int (iz 1)), (2, .int (iz 0))], [], Φ (mI A_2)))) ∧ (¬ (3 ≤ (m_rank (m_signOf A))) → (TapeB ((m_hold A_1 (m_signOf A)) 1)) ∧ (0 ≤ (m_hold A_1 (m_signOf A)) 0 46) ∧ ((m_hold A_1 (m_signOf A)) 0 46 ≤ (m_hold A_1 (m_signOf A)) 0 1) ∧ ((m_hold A_1 (m_signOf A)) 0 1 ≤ 160) ∧ (∀ (A_2 : Nat → Int → Int), RG A_2 → (Fr [] [46, 47, 48, 49] (m_hold A_1 (m_signOf A)) A_2 ∧ Cur A_2 ((m_hold A_1 (m_signOf A)) 1) ((m_hold A_1 (m_signOf A)) 0 1) ((m_hold A_1 (m_signOf A)) 0 46)) → wpE (xT 178) (xev xT d) Q (36, [(0, .ref m), (1, .int (iz 1)), (2, .int (iz 1))], [], Φ (mI A_2))))))) ∧ (¬ ((m_rank (m_signOf A)) = 4) → ((((m_rank (m_signOf A)) ≤ 2) → (0 ≤ (A 0 53) ∧ (A 0 53) < 7) ∧ (1 ≤ (m_rank (m_signOf A)) ∧ (m_rank (m_signOf A)) ≤ 7) ∧ (0 ≤ (A 0 52) ∧ (A 0 52) ≤ 161) ∧ (0 ≤ (A 0 55) ∧ (A 0 55) < 12) ∧ (0 ≤ (A 33 (A 0 55)) ∧ (A 33 (A 0 55)) + (A 0 52) ≤ 160) ∧ (cntO (popR (m_rank (m_signOf A)) (wts (UA A 36 (A 0 53) 0))) ≤ (A 0 54) ∧ (A 0 54) ≤ 5) ∧ (∀ (A_1 : Nat → Int → Int), RG A_1 → (SetP (m_rank (m_signOf A)) (UA A 36 (A 0 53) 0) A_1) → (0 ≤ A_1 0 52 ∧ A_1 0 52 < 161) ∧ (0 ≤ A_1 0 54 ∧ A_1 0 54 ≤ 5) ∧ (((3 ≤ (m_rank (m_signOf A))) → (TapeB ((m_hold A_1 (m_signOf A)) 1)) ∧ (0 ≤ (m_hold A_1 (m_signOf A)) 0 46) ∧ ((m_hold A_1 (m_signOf A)) 0 46 ≤ (m_hold A_1 (m_signOf A)) 0 1) ∧ ((m_hold A_1 (m_signOf A)) 0 1 ≤ 160) ∧ (∀ (A_2 : Nat → Int → Int), RG A_2 → (Fr [] [46, 47, 48, 49] (m_hold A_1 (m_signOf A)) A_2 ∧ Cur A_2 ((m_hold A_1 (m_signOf A)) 1) ((m_hold A_1 (m_signOf A)) 0 1) ((m_hold A_1 (m_signOf A)) 0 46)) → wpE (xT 178) (xev xT d) Q (36, [(0, .ref m), (1, .int (iz 1)), (2, .int (iz 0))], [], Φ (mI A_2)))) ∧ (¬ (3 ≤ (m_rank (m_signOf A))) → (TapeB ((m_hold A_1 (m_signOf A)) 1)) ∧ (0 ≤ (m_hold A_1 (m_signOf A)) 0 46) ∧ ((m_hold A_1 (m_signOf A)) 0 46 ≤ (m_hold A_1 (m_signOf A)) 0 1) ∧ ((m_hold A_1 (m_signOf A)) 0 1 ≤ 160) ∧ (∀ (A_2 : Nat → Int → Int), RG A_2 → (Fr [] [46, 47, 48, 49] (m_hold A_1 (m_signOf A)) A_2 ∧ Cur A_2 ((m_hold A_1 (m_signOf A)) 1) ((m_hold A_1 (m_signOf A)) 0 1) ((m_hold A_1 (m_signOf A)) 0 46)) → wpE (xT 178) (xev xT d) Q (36, [(0, .ref m), (1, .int (iz 1)), (2, .int (iz 1))], [], Φ (mI A_2))))))) ∧ (¬ ((m_rank (m_signOf A)) ≤ 2) → (0 ≤ (A 0 53) ∧ (A 0 53) < 7) ∧ ((((A 36 (A 0 53)) = 0) → (1 ≤ (m_rank (m_signOf A)) ∧ (m_rank (m_signOf A)) ≤ 7) ∧ (0 ≤ (A 0 52) ∧ (A 0 52) ≤ 161) ∧ (0 ≤ (A 0 55) ∧ (A 0 55) < 12) ∧ (0 ≤ (A 33 (A 0 55)) ∧ (A 33 (A 0 55)) + (A 0 52) ≤ 160) ∧ (cntO (popR (m_rank (m_signOf A)) (wts (UA A 36 (A 0 53) 0))) ≤ (A 0 54) ∧ (A 0 54) ≤ 5) ∧ (∀ (A_1 : Nat → Int → Int), RG A_1 → (SetP (m_rank (m_signOf A)) (UA A 36 (A 0 53) 0) A_1) → (0 ≤ A_1 0 52 ∧ A_1 0 52 < 161) ∧ (0 ≤ A_1 0 54 ∧ A_1 0 54 ≤ 5) ∧ (((3 ≤ (m_rank (m_signOf A))) → (TapeB ((m_hold A_1 (m_signOf A)) 1)) ∧ (0 ≤ (m_hold A_1 (m_signOf A)) 0 46) ∧ ((m_hold A_1 (m_signOf A)) 0 46 ≤ (m_hold A_1 (m_signOf A)) 0 1) ∧ ((m_hold A_1 (m_signOf A)) 0 1 ≤ 160) ∧ (∀ (A_2 : Nat → Int → Int), RG A_2 → (Fr [] [46, 47, 48, 49] (m_hold A_1 (m_signOf A)) A_2 ∧ Cur A_2 ((m_hold A_1 (m_signOf A)) 1) ((m_hold A_1 (m_signOf A)) 0 1) ((m_hold A_1 (m_signOf A)) 0 46)) → wpE (xT 178) (xev xT d) Q (36, [(0, .ref m), (1, .int (iz 1)), (2, .int (iz 0))], [], Φ (mI A_2)))) ∧ (¬ (3 ≤ (m_rank (m_signOf A))) → (TapeB ((m_hold A_1 (m_signOf A)) 1)) ∧ (0 ≤ (m_hold A_1 (m_signOf A)) 0 46) ∧ ((m_hold A_1 (m_signOf A)) 0 46 ≤ (m_hold A_1 (m_signOf A)) 0 1) ∧ ((m_hold A_1 (m_signOf A)) 0 1 ≤ 160) ∧ (∀ (A_2 : Nat → Int → Int), RG A_2 → (Fr [] [46, 47, 48, 49] (m_hold A_1 (m_signOf A)) A_2 ∧ Cur A_2 ((m_hold A_1 (m_signOf A)) 1) ((m_hold A_1 (m_signOf A)) 0 1) ((m_hold A_1 (m_signOf A)) 0 46)) → wpE (xT 178) (xev xT d) Q (36, [(0, .ref m), (1, .int (iz 1)), (2, .int (iz 1))], [], Φ (mI A_2))))))) ∧ (¬ ((A 36 (A 0 53)) = 0) → (1 ≤ (m_rank (m_signOf A)) ∧ (m_rank (m_signOf A)) ≤ 7) ∧ (0 ≤ (A 0 52) ∧ (A 0 52) ≤ 161) ∧ (0 ≤ (A 0 55) ∧ (A 0 55) < 12) ∧ (0 ≤ (A 33 (A 0 55)) ∧ (A 33 (A 0 55)) + (A 0 52) ≤ 160) ∧ (cntO (popR (m_rank (m_signOf A)) (wts (UA A 36 (A 0 53) 1))) ≤ (A 0 54) ∧ (A 0 54) ≤ 5) ∧ (∀ (A_1 : Nat → Int → Int), RG A_1 → (SetP (m_rank (m_signOf A)) (UA A 36 (A 0 53) 1) A_1) → (0 ≤ A_1 0 52 ∧ A_1 0 52 < 161) ∧ (0 ≤ A_1 0 54 ∧ A_1 0 54 ≤ 5) ∧ (((3 ≤ (m_rank (m_signOf A))) → (TapeB ((m_hold A_1 (m_signOf A)) 1)) ∧ (0 ≤ (m_hold A_1 (m_signOf A)) 0 46) ∧ ((m_hold A_1 (m_signOf A)) 0 46 ≤ (m_hold A_1 (m_signOf A)) 0 1) ∧ ((m_hold A_1 (m_signOf A)) 0 1 ≤ 160) ∧ (∀ (A_2 : Nat → Int → Int), RG A_2 → (Fr [] [46, 47, 48, 49] (m_hold A_1 (m_signOf A)) A_2 ∧ Cur A_2 ((m_hold A_1 (m_signOf A)) 1) ((m_hold A_1 (m_signOf A)) 0 1) ((m_hold A_1 (m_signOf A)) 0 46)) → wpE (xT 178) (xev xT d) Q (36, [(0, .ref m), (1, .int (iz 1)), (2, .int (iz 0))], [], Φ (mI A_2)))) ∧ (¬ (3 ≤ (m_rank (m_signOf A))) → (TapeB ((m_hold A_1 (m_signOf A)) 1)) ∧ (0 ≤ (m_hold A_1 (m_signOf A)) 0 46) ∧ ((m_hold A_1 (m_signOf A)) 0 46 ≤ (m_hold A_1 (m_signOf A)) 0 1) ∧ ((m_hold A_1 (m_signOf A)) 0 1 ≤ 160) ∧ (∀ (A_2 : Nat → Int → Int), RG A_2 → (Fr [] [46, 47, 48, 49] (m_hold A_1 (m_signOf A)) A_2 ∧ Cur A_2 ((m_hold A_1 (m_signOf A)) 1) ((m_hold A_1 (m_signOf A)) 0 1) ((m_hold A_1 (m_signOf A)) 0 46)) → wpE (xT 178) (xev xT d) Q (36, [(0, .ref m), (1, .int (iz 1)), (2, .int (iz 1))], [], Φ (mI A_2))))))))))))))))) ∧ ((A 0 47 = 4 ∧ A 0 48 = 41) → ((((A 0 53) = 0) → Q (some (.int (iz 0))) (Φ (mI A))) ∧ (¬ ((A 0 53) = 0) → (1 ≤ (1 : Int) ∧ (1 : Int) ≤ 7) ∧ (0 ≤ A 0 52 ∧ A 0 52 ≤ 161) ∧ (0 ≤ A 0 55 ∧ A 0 55 < 12) ∧ (0 ≤ A 33 (A 0 55) ∧ A 33 (A 0 55) + A 0 52 ≤ 160) ∧ (cntO (popR (1 : Int) (wts A)) ≤ A 0 54 ∧ A 0 54 ≤ 5) ∧ (∀ (A_1 : Nat → Int → Int), RG A_1 → (SetP 1 A A_1) → (Rg ((A_1 0 52) - 1)) ∧ (Rg ((A_1 0 54) - 1)) ∧ (Rg ((A_1 0 53) - 1)) ∧ (1 ≤ (7 : Int) ∧ (7 : Int) ≤ 7) ∧ (0 ≤ ((A_1 0 52) - 1) ∧ ((A_1 0 52) - 1) ≤ 161) ∧ (0 ≤ (A_1 0 55) ∧ (A_1 0 55) < 12) ∧ (0 ≤ (A_1 33 (A_1 0 55)) ∧ (A_1 33 (A_1 0 55)) + ((A_1 0 52) - 1) ≤ 160) ∧ (cntO (popR (7 : Int) (wts (UA (UA (UA A_1 0 52 ((A_1 0 52) - 1)) 0 54 ((A_1 0 54) - 1)) 0 53 ((A_1 0 53) - 1)))) ≤ ((A_1 0 54) - 1) ∧ ((A_1 0 54) - 1) ≤ 5) ∧ (∀ (A_2 : Nat → Int → Int), RG A_2 → (SetP 7 (UA (UA (UA A_1 0 52 ((A_1 0 52) - 1)) 0 54 ((A_1 0 54) - 1)) 0 53 ((A_1 0 53) - 1)) A_2) → (TapeB (A_2 1)) ∧ (0 ≤ A_2 0 46) ∧ (A_2 0 46 ≤ A_2 0 1) ∧ (A_2 0 1 ≤ 160) ∧ (∀ (A_3 : Nat → Int → Int), RG A_3 → (Fr [] [46, 47, 48, 49] A_2 A_3 ∧ Cur A_3 (A_2 1) (A_2 0 1) (A_2 0 46)) → wpE (xT 178) (xev xT d) Q (36, [(0, .ref m), (1, .int (iz x1)), (2, .int (iz x2))], [], Φ (mI A_3)))))))))) ∧ ((A 0 47 = 4 ∧ A 0 48 = 59) → (1 ≤ (1 : Int) ∧ (1 : Int) ≤ 7) ∧ (0 ≤ A 0 52 ∧ A 0 52 ≤ 161) ∧ (0 ≤ A 0 55 ∧ A 0 55 < 12) ∧ (0 ≤ A 33 (A 0 55) ∧ A 33 (A 0 55) + A 0 52 ≤ 160) ∧ (cntO (popR (1 : Int) (wts A)) ≤ A 0 54 ∧ A 0 54 ≤ 5) ∧ (∀ (A_1 : Nat → Int → Int), RG A_1 → (SetP 1 A A_1) → ((((A_1 0 53) = 0) → Q (some (.int (iz 1))) (Φ (mI A_1))) ∧ (¬ ((A_1 0 53) = 0) → Q (some (.int (iz 0))) (Φ (mI A_1)))))))) ∧ (¬ (x1 = 0) → (x2 = 0 ∨ x2 = 1) ∧ ((¬ (m_ahead A x2) → Q (some (.int (iz 0))) (Φ (mI A))) ∧ ((m_ahead A x2) → ((¬ (A 0 47 = 3 ∧ A 0 48 = 4) → ((¬ (A 0 47 = 4 ∧ A 0 48 = 45) → ((¬ (A 0 47 = 4 ∧ A 0 48 = 40) → ((((A 0 47) = 1) → (0 ≤ A 0 55 ∧ A 0 55 < 12) ∧ (0 ≤ A 33 (A 0 55) ∧ A 33 (A 0 55) < 160) ∧ (1 ≤ (7 : Int) ∧ (7 : Int) ≤ 7) ∧ (0 ≤ (m_put A (A 0 48)) 0 52 ∧ (m_put A (A 0 48)) 0 52 ≤ 161) ∧ (0 ≤ (m_put A (A 0 48)) 0 55 ∧ (m_put A (A 0 48)) 0 55 < 12) ∧ (0 ≤ (m_put A (A 0 48)) 33 ((m_put A (A 0 48)) 0 55) ∧ (m_put A (A 0 48)) 33 ((m_put A (A 0 48)) 0 55) + (m_put A (A 0 48)) 0 52 ≤ 160) ∧ (cntO (popR (7 : Int) (wts (m_put A (A 0 48)))) ≤ (m_put A (A 0 48)) 0 54 ∧ (m_put A (A 0 48)) 0 54 ≤ 5) ∧ (∀ (A_1 : Nat → Int → Int), RG A_1 → (SetP 7 (m_put A (A 0 48)) A_1) → (TapeB (A_1 1)) ∧ (0 ≤ A_1 0 46) ∧ (A_1 0 46 ≤ A_1 0 1) ∧ (A_1 0 1 ≤ 160) ∧ (∀ (A_2 : Nat → Int → Int), RG A_2 → (Fr [] [46, 47, 48, 49] A_1 A_2 ∧ Cur A_2 (A_1 1) (A_1 0 1) (A_1 0 46)) → wpE (xT 178) (xev xT d) Q (36, [(0, .ref m), (1, .int (iz 0)), (2, .int (iz x2))], [], Φ (mI A_2))))) ∧ (¬ ((A 0 47) = 1) → (Rg (10000 + (A 0 48))) ∧ (0 ≤ A 0 55 ∧ A 0 55 < 12) ∧ (0 ≤ A 33 (A 0 55) ∧ A 33 (A 0 55) < 160) ∧ (1 ≤ (7 : Int) ∧ (7 : Int) ≤ 7) ∧ (0 ≤ (m_put A (10000 + (A 0 48))) 0 52 ∧ (m_put A (10000 + (A 0 48))) 0 52 ≤ 161) ∧ (0 ≤ (m_put A (10000 + (A 0 48))) 0 55 ∧ (m_put A (10000 + (A 0 48))) 0 55 < 12) ∧ (0 ≤ (m_put A (10000 + (A 0 48))) 33 ((m_put A (10000 + (A 0 48))) 0 55) ∧ (m_put A (10000 + (A 0 48))) 33 ((m_put A (10000 + (A 0 48))) 0 55) + (m_put A (10000 + (A 0 48))) 0 52 ≤ 160) ∧ (cntO (popR (7 : Int) (wts (m_put A (10000 + (A 0 48))))) ≤ (m_put A (10000 + (A 0 48))) 0 54 ∧ (m_put A (10000 + (A 0 48))) 0 54 ≤ 5) ∧ (∀ (A_1 : Nat → Int → Int), RG A_1 → (SetP 7 (m_put A (10000 + (A 0 48))) A_1) → (TapeB (A_1 1)) ∧ (0 ≤ A_1 0 46) ∧ (A_1 0 46 ≤ A_1 0 1) ∧ (A_1 0 1 ≤ 160) ∧ (∀ (A_2 : Nat → Int → Int), RG A_2 → (Fr [] [46, 47, 48, 49] A_1 A_2 ∧ Cur A_2 (A_1 1) (A_1 0 1) (A_1 0 46)) → wpE (xT 178) (xev xT d) Q (36, [(0, .ref m), (1, .int (iz 0)), (2, .int (iz x2))], [], Φ (mI A_2))))))) ∧ ((A 0 47 = 4 ∧ A 0 48 = 40) → (0 ≤ A 0 52 ∧ A 0 52 < 161) ∧ (0 ≤ A 0 54 ∧ A 0 54 ≤ 5) ∧ (Rg (((m_hold A (-10)) 0 53) + 1)) ∧ (0 ≤ (((m_hold A (-10)) 0 53) + 1) ∧ (((m_hold A (-10)) 0 53) + 1) < 7) ∧ (TapeB ((UA (UA (m_hold A (-10)) 0 53 (((m_hold A (-10)) 0 53) + 1)) 36 (((m_hold A (-10)) 0 53) + 1) 0) 1)) ∧ (0 ≤ ((m_hold A (-10)) 0 46)) ∧ (((m_hold A (-10)) 0 46) ≤ ((m_hold A (-10)) 0 1)) ∧ (((m_hold A (-10)) 0 1) ≤ 160) ∧ (∀ (A_1 : Nat → Int → Int), RG A_1 → (Fr [] [46, 47, 48, 49] (UA (UA (m_hold A (-10)) 0 53 (((m_hold A (-10)) 0 53) + 1)) 36 (((m_hold A (-10)) 0 53) + 1) 0) A_1 ∧ Cur A_1 ((UA (UA (m_hold A (-10)) 0 53 (((m_hold A (-10)) 0 53) + 1)) 36 (((m_hold A (-10)) 0 53) + 1) 0) 1) ((UA (UA (m_hold A (-10)) 0 53 (((m_hold A (-10)) 0 53) + 1)) 36 (((m_hold A (-10)) 0 53) + 1) 0) 0 1) ((UA (UA (m_hold A (-10)) 0 53 (((m_hold A (-10)) 0 53) + 1)) 36 (((m_hold A (-10)) 0 53) + 1) 0) 0 46)) → wpE (xT 178) (xev xT d) Q (36, [(0, .ref m), (1, .int (iz x1)), (2, .int (iz 1))], [], Φ (mI A_1)))))) ∧ ((A 0 47 = 4 ∧ A 0 48 = 45) → (0 ≤ A 0 52 ∧ A 0 52 < 161) ∧ (0 ≤ A 0 54 ∧ A 0 54 ≤ 5) ∧ (TapeB ((m_hold A (-9)) 1)) ∧ (0 ≤ (m_hold A (-9)) 0 46) ∧ ((m_hold A (-9)) 0 46 ≤ (m_hold A (-9)) 0 1) ∧ ((m_hold A (-9)) 0 1 ≤ 160) ∧ (∀ (A_1 : Nat → Int → Int), RG A_1 → (Fr [] [46, 47, 48, 49] (m_hold A (-9)) A_1 ∧ Cur A_1 ((m_hold A (-9)) 1) ((m_hold A (-9)) 0 1) ((m_hold A (-9)) 0 46)) → wpE (xT 178) (xev xT d) Q (36, [(0, .ref m), (1, .int (iz x1)), (2, .int (iz 0))], [], Φ (mI A_1)))))) ∧ ((A 0 47 = 3 ∧ A 0 48 = 4) → (0 ≤ A 0 52 ∧ A 0 52 < 161) ∧ (0 ≤ A 0 54 ∧ A 0 54 ≤ 5) ∧ (TapeB ((m_hold A (-3)) 1)) ∧ (0 ≤ (m_hold A (-3)) 0 46) ∧ ((m_hold A (-3)) 0 46 ≤ (m_hold A (-3)) 0 1) ∧ ((m_hold A (-3)) 0 1 ≤ 160) ∧ (∀ (A_1 : Nat → Int → Int), RG A_1 → (Fr [] [46, 47, 48, 49] (m_hold A (-3)) A_1 ∧ Cur A_1 ((m_hold A (-3)) 1) ((m_hold A (-3)) 0 1) ((m_hold A (-3)) 0 46)) → wpE (xT 178) (xev xT d) Q (36, [(0, .ref m), (1, .int (iz x1)), (2, .int (iz x2))], [], Φ (mI A_1)))))))))) : wpE (xT 178) (xev xT d) Q (36, [(0, .ref m), (1, .int (iz x1)), (2, .int (iz x2))], [], Φ (mI A)) := by
  refine p_ild (cct c178_36 rfl) rfl ?_
  refine i_if (c' := x1 = 0) (cc3 c178_37) (c_eq0 rr.1) (fun c => ?_) (fun c => ?_)
  · have h := h.1 c
    refine p_ald (cc3 c178_169) rfl ?_
    refine i_push (n := 59) (cc3 c178_170) zl_59 ?_
    refine p_callV (cc3 c178_172) (Nat.le_of_ble_eq_true rfl) rfl rfl (Nat.le_of_ble_eq_true rfl) (ml_kd hΦ) (S180 (Nat.le_trans (by decide) hd) hΦ hR (by decide)) ?_
    refine i_ifB (cc3 c178_175) (fun c => ?_) (fun c => ?_)
    · have h := h.1 c
      refine p_ald (cc3 c178_196) rfl ?_
      refine i_push (n := 41) (cc3 c178_197) zl_41 ?_
      refine p_callV (cc3 c178_199) (Nat.le_of_ble_eq_true rfl) rfl rfl (Nat.le_of_ble_eq_true rfl) (ml_kd hΦ) (S180 (Nat.le_trans (by decide) hd) hΦ hR (by decide)) ?_
      refine i_ifB (cc3 c178_202) (fun c => ?_) (fun c => ?_)
      · have h := h.1 c
        refine p_ald (cc3 c178_262) rfl ?_
        refine p_callV (cc3 c178_263) (Nat.le_of_ble_eq_true rfl) rfl rfl (Nat.le_of_ble_eq_true rfl) (ml_kd hΦ) (S185 (Nat.le_trans (by decide) hd) hΦ hR) ?_
        refine p_ist (ls' := [(3, .int (iz (m_signOf A))), (0, .ref m), (1, .int (iz x1)), (2, .int (iz x2))]) (cc3 c178_266) (by decide) rfl ?_
        refine p_ild (cc3 c178_267) rfl ?_
        obtain ⟨g1, h⟩ := h
        refine i_if (c' := (m_signOf A) = 0) (cc3 c178_268) (c_eq0 g1) (fun c => ?_) (fun c => ?_)
        · have h := h.1 c
          refine p_lc (ls' := []) c178_292 rfl rfl ?_
          refine i_push (n := 0) (cct c178_292 rfl) zl_0 ?_
          exact i_ri (cc3 c178_293) (by decide) h
        · have h := h.2 c
          refine p_ald (cc3 c178_271) rfl ?_
          refine p_ild (cc3 c178_272) rfl ?_
          refine p_callV (cc3 c178_273) (Nat.le_of_ble_eq_true rfl) rfl rfl (Nat.le_of_ble_eq_true rfl) (ml_kd hΦ) (S184 (Nat.le_trans (by decide) hd) hΦ hR g1) ?_
          refine i_push (n := 4) (cc3 c178_276) zl_4 ?_
          refine i_icmp (c' := (m_rank (m_signOf A)) = 4) (cc3 c178_277) (iz_inj (by have := m_rank_b (w := (m_signOf A)); omega) (by decide)) (fun c => ?_) (fun c => ?_)
          · have h := h.1 c
            refine p_ald (cc3 c178_280) rfl ?_
            refine pm_getp hΦ (cc3 c178_281) (c := 36) rfl (by decide) ?_
            refine p_ald (cc3 c178_284) rfl ?_
            refine n_geti hΦ (v := A 0 53) (cc3 c178_285) (ji := 53) rfl rfl ?_
            obtain ⟨g2, h⟩ := h
            refine n_aldi hΦ (c := 36) (n := 7) (ni := 7) (cc3 c178_288) (by decide) rfl rfl rfl (by decide) g2 (v := A 36 (A 0 53)) rfl ?_
            refine i_if (c' := (A 36 (A 0 53)) = 0) (cc3 c178_289) (c_eq0 (hR 36 (A 0 53))) (fun c => ?_) (fun c => ?_)
            · have h := h.1 c
              refine p_lc (ls' := [(0, .ref m), (3, .int (iz (m_signOf A)))]) c178_294 rfl rfl ?_
              refine p_ald (cct c178_294 rfl) rfl ?_
              refine pm_getp hΦ (cc3 c178_295) (c := 36) rfl (by decide) ?_
              refine p_ald (cc3 c178_298) rfl ?_
              refine n_geti hΦ (v := A 0 53) (cc3 c178_299) (ji := 53) rfl rfl ?_
              refine p_ald (cc3 c178_302) rfl ?_
              refine p_ild (cc3 c178_303) rfl ?_
              refine p_callV (cc3 c178_304) (Nat.le_of_ble_eq_true rfl) rfl rfl (Nat.le_of_ble_eq_true rfl) (ml_kd hΦ) (S184 (Nat.le_trans (by decide) hd) hΦ hR g1) ?_
              refine i_push (n := 4) (cc3 c178_307) zl_4 ?_
              refine i_icmp (c' := (m_rank (m_signOf A)) = 4) (cc3 c178_308) (iz_inj (by have := m_rank_b (w := (m_signOf A)); omega) (by decide)) (fun c => ?_) (fun c => ?_)
              · have h := h.1 c
                refine i_push (n := 1) (cct c178_332 rfl) zl_1 ?_
                refine p_goto (cc3 c178_333) ?_
                refine id (α := Rg 1 → _) (fun _ => ?_) (by decide); refine n_asti hΦ (c := 36) (n := 7) (ni := 7) (hv := (vnarB (by decide))) (cct c178_337 rfl) (by decide) rfl rfl rfl (by decide) g2 ?_
                refine p_ald (cc3 c178_338) rfl ?_
                refine p_ald (cc3 c178_339) rfl ?_
                refine p_ild (cc3 c178_340) rfl ?_
                refine p_callV (cc3 c178_341) (Nat.le_of_ble_eq_true rfl) rfl rfl (Nat.le_of_ble_eq_true rfl) (ml_kd hΦ) (S184 (Nat.le_trans (by decide) hd) hΦ (rg_UA hR (by decide)) g1) ?_
                obtain ⟨g3, h⟩ := h
                obtain ⟨g4, h⟩ := h
                obtain ⟨g5, h⟩ := h
                obtain ⟨g6, h⟩ := h
                obtain ⟨g7, h⟩ := h
                obtain ⟨A_1, he, hR_1, hp_1⟩ := S183 (A := UA A 36 (A 0 53) 1) (Nat.le_trans (by decide) hd) hΦ (rg_UA hR (by decide)) (by have := m_rank_b (w := (m_signOf A)); omega) ⟨g3, g4, g5, g6, g7⟩
                have h := h A_1 hR_1 hp_1
                refine p_callV (cc3 c178_344) (Nat.le_of_ble_eq_true rfl) rfl rfl (Nat.le_of_ble_eq_true rfl) (ml_kd hΦ) he ?_
                refine p_ald (cc3 c178_347) rfl ?_
                refine p_ild (cc3 c178_348) rfl ?_
                obtain ⟨g8, h⟩ := h
                obtain ⟨g9, h⟩ := h
                refine p_callV (cc3 c178_349) (Nat.le_of_ble_eq_true rfl) rfl rfl (Nat.le_of_ble_eq_true rfl) (ml_kd hΦ) (S181 (Nat.le_trans (by decide) hd) hΦ hR_1 g1 ⟨g8, g9⟩) ?_
                refine i_push (n := 1) (cc3 c178_352) zl_1 ?_
                refine p_ist (ls' := [(1, .int (iz 1)), (0, .ref m), (3, .int (iz (m_signOf A)))]) (cc3 c178_353) (by decide) rfl ?_
                refine p_ald (cc3 c178_354) rfl ?_
                refine p_ild (cc3 c178_355) rfl ?_
                refine p_callV (cc3 c178_356) (Nat.le_of_ble_eq_true rfl) rfl rfl (Nat.le_of_ble_eq_true rfl) (ml_kd hΦ) (S184 (Nat.le_trans (by decide) hd) hΦ (rg_hold (A := A_1) hR_1 g1 ⟨g8, g9⟩) g1) ?_
                refine i_push (n := 3) (cc3 c178_359) zl_3 ?_
                refine i_icmp (c' := 3 ≤ (m_rank (m_signOf A))) (cc3 c178_360) (iz_le (by decide) (by have := m_rank_b (w := (m_signOf A)); omega)) (fun c => ?_) (fun c => ?_)
                · have h := h.1 c
                  refine i_push (n := 0) (cc3 c178_367) zl_0 ?_
                  refine p_lc (ls' := [(0, .ref m), (1, .int (iz 1))]) c178_368 rfl rfl ?_
                  refine p_ist (ls' := [(2, .int (iz 0)), (0, .ref m), (1, .int (iz 1))]) (cct c178_368 rfl) (by decide) rfl ?_
                  refine p_ald (cc3 c178_369) rfl ?_
                  obtain ⟨g10, h⟩ := h
                  obtain ⟨g11, h⟩ := h
                  obtain ⟨g12, h⟩ := h
                  obtain ⟨g13, h⟩ := h
                  obtain ⟨A_2, he, hR_2, hp_2⟩ := S172 (A := m_hold A_1 (m_signOf A)) (Nat.le_trans (by decide) hd) hΦ (rg_hold (A := A_1) hR_1 g1 ⟨g8, g9⟩) ⟨g10, g11, g12, g13⟩
                  have h := h A_2 hR_2 hp_2
                  refine p_callV (cc3 c178_370) (Nat.le_of_ble_eq_true rfl) rfl rfl (Nat.le_of_ble_eq_true rfl) (ml_kd hΦ) he ?_
                  refine p_goto (cc3 c178_373) ?_
                  exact p_lc (ls' := [(0, .ref m), (1, .int (iz 1)), (2, .int (iz 0))]) c178_36 rfl rfl h
                · have h := h.2 c
                  refine i_push (n := 1) (cc3 c178_363) zl_1 ?_
                  refine p_goto (cc3 c178_364) ?_
                  refine p_lc (ls' := [(0, .ref m), (1, .int (iz 1))]) c178_368 rfl rfl ?_
                  refine p_ist (ls' := [(2, .int (iz 1)), (0, .ref m), (1, .int (iz 1))]) (cct c178_368 rfl) (by decide) rfl ?_
                  refine p_ald (cc3 c178_369) rfl ?_
                  obtain ⟨g10, h⟩ := h
                  obtain ⟨g11, h⟩ := h
                  obtain ⟨g12, h⟩ := h
                  obtain ⟨g13, h⟩ := h
                  obtain ⟨A_2, he, hR_2, hp_2⟩ := S172 (A := m_hold A_1 (m_signOf A)) (Nat.le_trans (by decide) hd) hΦ (rg_hold (A := A_1) hR_1 g1 ⟨g8, g9⟩) ⟨g10, g11, g12, g13⟩
                  have h := h A_2 hR_2 hp_2
                  refine p_callV (cc3 c178_370) (Nat.le_of_ble_eq_true rfl) rfl rfl (Nat.le_of_ble_eq_true rfl) (ml_kd hΦ) he ?_
                  refine p_goto (cc3 c178_373) ?_
                  exact p_lc (ls' := [(0, .ref m), (1, .int (iz 1)), (2, .int (iz 1))]) c178_36 rfl rfl h
              · have h := h.2 c
                refine p_ald (cc3 c178_311) rfl ?_
                refine p_ild (cc3 c178_312) rfl ?_
                refine p_callV (cc3 c178_313) (Nat.le_of_ble_eq_true rfl) rfl rfl (Nat.le_of_ble_eq_true rfl) (ml_kd hΦ) (S184 (Nat.le_trans (by decide) hd) hΦ hR g1) ?_
                refine i_push (n := 2) (cc3 c178_316) zl_2 ?_
                refine i_icmp (c' := (m_rank (m_signOf A)) ≤ 2) (cc3 c178_317) (iz_le (by have := m_rank_b (w := (m_signOf A)); omega) (by decide)) (fun c => ?_) (fun c => ?_)
                · have h := h.1 c
                  refine i_push (n := 0) (cct c178_336 rfl) zl_0 ?_
                  refine id (α := Rg 0 → _) (fun _ => ?_) (by decide); refine n_asti hΦ (c := 36) (n := 7) (ni := 7) (hv := (vnarB (by decide))) (cct c178_337 rfl) (by decide) rfl rfl rfl (by decide) g2 ?_
                  refine p_ald (cc3 c178_338) rfl ?_
                  refine p_ald (cc3 c178_339) rfl ?_
                  refine p_ild (cc3 c178_340) rfl ?_
                  refine p_callV (cc3 c178_341) (Nat.le_of_ble_eq_true rfl) rfl rfl (Nat.le_of_ble_eq_true rfl) (ml_kd hΦ) (S184 (Nat.le_trans (by decide) hd) hΦ (rg_UA hR (by decide)) g1) ?_
                  obtain ⟨g3, h⟩ := h
                  obtain ⟨g4, h⟩ := h
                  obtain ⟨g5, h⟩ := h
                  obtain ⟨g6, h⟩ := h
                  obtain ⟨g7, h⟩ := h
                  obtain ⟨A_1, he, hR_1, hp_1⟩ := S183 (A := UA A 36 (A 0 53) 0) (Nat.le_trans (by decide) hd) hΦ (rg_UA hR (by decide)) (by have := m_rank_b (w := (m_signOf A)); omega) ⟨g3, g4, g5, g6, g7⟩
                  have h := h A_1 hR_1 hp_1
                  refine p_callV (cc3 c178_344) (Nat.le_of_ble_eq_true rfl) rfl rfl (Nat.le_of_ble_eq_true rfl) (ml_kd hΦ) he ?_
                  refine p_ald (cc3 c178_347) rfl ?_
                  refine p_ild (cc3 c178_348) rfl ?_
                  obtain ⟨g8, h⟩ := h
                  obtain ⟨g9, h⟩ := h
                  refine p_callV (cc3 c178_349) (Nat.le_of_ble_eq_true rfl) rfl rfl (Nat.le_of_ble_eq_true rfl) (ml_kd hΦ) (S181 (Nat.le_trans (by decide) hd) hΦ hR_1 g1 ⟨g8, g9⟩) ?_
                  refine i_push (n := 1) (cc3 c178_352) zl_1 ?_
                  refine p_ist (ls' := [(1, .int (iz 1)), (0, .ref m), (3, .int (iz (m_signOf A)))]) (cc3 c178_353) (by decide) rfl ?_
                  refine p_ald (cc3 c178_354) rfl ?_
                  refine p_ild (cc3 c178_355) rfl ?_
                  refine p_callV (cc3 c178_356) (Nat.le_of_ble_eq_true rfl) rfl rfl (Nat.le_of_ble_eq_true rfl) (ml_kd hΦ) (S184 (Nat.le_trans (by decide) hd) hΦ (rg_hold (A := A_1) hR_1 g1 ⟨g8, g9⟩) g1) ?_
                  refine i_push (n := 3) (cc3 c178_359) zl_3 ?_
                  refine i_icmp (c' := 3 ≤ (m_rank (m_signOf A))) (cc3 c178_360) (iz_le (by decide) (by have := m_rank_b (w := (m_signOf A)); omega)) (fun c => ?_) (fun c => ?_)
                  · have h := h.1 c
                    refine i_push (n := 0) (cc3 c178_367) zl_0 ?_
                    refine p_lc (ls' := [(0, .ref m), (1, .int (iz 1))]) c178_368 rfl rfl ?_
                    refine p_ist (ls' := [(2, .int (iz 0)), (0, .ref m), (1, .int (iz 1))]) (cct c178_368 rfl) (by decide) rfl ?_
                    refine p_ald (cc3 c178_369) rfl ?_
                    obtain ⟨g10, h⟩ := h
                    obtain ⟨g11, h⟩ := h
                    obtain ⟨g12, h⟩ := h
                    obtain ⟨g13, h⟩ := h
                    obtain ⟨A_2, he, hR_2, hp_2⟩ := S172 (A := m_hold A_1 (m_signOf A)) (Nat.le_trans (by decide) hd) hΦ (rg_hold (A := A_1) hR_1 g1 ⟨g8, g9⟩) ⟨g10, g11, g12, g13⟩
                    have h := h A_2 hR_2 hp_2
                    refine p_callV (cc3 c178_370) (Nat.le_of_ble_eq_true rfl) rfl rfl (Nat.le_of_ble_eq_true rfl) (ml_kd hΦ) he ?_
                    refine p_goto (cc3 c178_373) ?_
                    exact p_lc (ls' := [(0, .ref m), (1, .int (iz 1)), (2, .int (iz 0))]) c178_36 rfl rfl h
                  · have h := h.2 c
                    refine i_push (n := 1) (cc3 c178_363) zl_1 ?_
                    refine p_goto (cc3 c178_364) ?_
                    refine p_lc (ls' := [(0, .ref m), (1, .int (iz 1))]) c178_368 rfl rfl ?_
                    refine p_ist (ls' := [(2, .int (iz 1)), (0, .ref m), (1, .int (iz 1))]) (cct c178_368 rfl) (by decide) rfl ?_
                    refine p_ald (cc3 c178_369) rfl ?_
                    obtain ⟨g10, h⟩ := h
                    obtain ⟨g11, h⟩ := h
                    obtain ⟨g12, h⟩ := h
                    obtain ⟨g13, h⟩ := h
                    obtain ⟨A_2, he, hR_2, hp_2⟩ := S172 (A := m_hold A_1 (m_signOf A)) (Nat.le_trans (by decide) hd) hΦ (rg_hold (A := A_1) hR_1 g1 ⟨g8, g9⟩) ⟨g10, g11, g12, g13⟩
                    have h := h A_2 hR_2 hp_2
                    refine p_callV (cc3 c178_370) (Nat.le_of_ble_eq_true rfl) rfl rfl (Nat.le_of_ble_eq_true rfl) (ml_kd hΦ) he ?_
                    refine p_goto (cc3 c178_373) ?_
                    exact p_lc (ls' := [(0, .ref m), (1, .int (iz 1)), (2, .int (iz 1))]) c178_36 rfl rfl h
                · have h := h.2 c
                  refine p_ald (cc3 c178_320) rfl ?_
                  refine pm_getp hΦ (cc3 c178_321) (c := 36) rfl (by decide) ?_
                  refine p_ald (cc3 c178_324) rfl ?_
                  refine n_geti hΦ (v := A 0 53) (cc3 c178_325) (ji := 53) rfl rfl ?_
                  refine n_aldi hΦ (c := 36) (n := 7) (ni := 7) (cc3 c178_328) (by decide) rfl rfl rfl (by decide) g2 (v := A 36 (A 0 53)) rfl ?_
                  refine i_if (c' := (A 36 (A 0 53)) = 0) (cc3 c178_329) (c_eq0 (hR 36 (A 0 53))) (fun c => ?_) (fun c => ?_)
                  · have h := h.1 c
                    refine i_push (n := 0) (cct c178_336 rfl) zl_0 ?_
                    refine id (α := Rg 0 → _) (fun _ => ?_) (by decide); refine n_asti hΦ (c := 36) (n := 7) (ni := 7) (hv := (vnarB (by decide))) (cct c178_337 rfl) (by decide) rfl rfl rfl (by decide) g2 ?_
                    refine p_ald (cc3 c178_338) rfl ?_
                    refine p_ald (cc3 c178_339) rfl ?_
                    refine p_ild (cc3 c178_340) rfl ?_
                    refine p_callV (cc3 c178_341) (Nat.le_of_ble_eq_true rfl) rfl rfl (Nat.le_of_ble_eq_true rfl) (ml_kd hΦ) (S184 (Nat.le_trans (by decide) hd) hΦ (rg_UA hR (by decide)) g1) ?_
                    obtain ⟨g3, h⟩ := h
                    obtain ⟨g4, h⟩ := h
                    obtain ⟨g5, h⟩ := h
                    obtain ⟨g6, h⟩ := h
                    obtain ⟨g7, h⟩ := h
                    obtain ⟨A_1, he, hR_1, hp_1⟩ := S183 (A := UA A 36 (A 0 53) 0) (Nat.le_trans (by decide) hd) hΦ (rg_UA hR (by decide)) (by have := m_rank_b (w := (m_signOf A)); omega) ⟨g3, g4, g5, g6, g7⟩
                    have h := h A_1 hR_1 hp_1
                    refine p_callV (cc3 c178_344) (Nat.le_of_ble_eq_true rfl) rfl rfl (Nat.le_of_ble_eq_true rfl) (ml_kd hΦ) he ?_
                    refine p_ald (cc3 c178_347) rfl ?_
                    refine p_ild (cc3 c178_348) rfl ?_
                    obtain ⟨g8, h⟩ := h
                    obtain ⟨g9, h⟩ := h
                    refine p_callV (cc3 c178_349) (Nat.le_of_ble_eq_true rfl) rfl rfl (Nat.le_of_ble_eq_true rfl) (ml_kd hΦ) (S181 (Nat.le_trans (by decide) hd) hΦ hR_1 g1 ⟨g8, g9⟩) ?_
                    refine i_push (n := 1) (cc3 c178_352) zl_1 ?_
                    refine p_ist (ls' := [(1, .int (iz 1)), (0, .ref m), (3, .int (iz (m_signOf A)))]) (cc3 c178_353) (by decide) rfl ?_
                    refine p_ald (cc3 c178_354) rfl ?_
                    refine p_ild (cc3 c178_355) rfl ?_
                    refine p_callV (cc3 c178_356) (Nat.le_of_ble_eq_true rfl) rfl rfl (Nat.le_of_ble_eq_true rfl) (ml_kd hΦ) (S184 (Nat.le_trans (by decide) hd) hΦ (rg_hold (A := A_1) hR_1 g1 ⟨g8, g9⟩) g1) ?_
                    refine i_push (n := 3) (cc3 c178_359) zl_3 ?_
                    refine i_icmp (c' := 3 ≤ (m_rank (m_signOf A))) (cc3 c178_360) (iz_le (by decide) (by have := m_rank_b (w := (m_signOf A)); omega)) (fun c => ?_) (fun c => ?_)
                    · have h := h.1 c
                      refine i_push (n := 0) (cc3 c178_367) zl_0 ?_
                      refine p_lc (ls' := [(0, .ref m), (1, .int (iz 1))]) c178_368 rfl rfl ?_
                      refine p_ist (ls' := [(2, .int (iz 0)), (0, .ref m), (1, .int (iz 1))]) (cct c178_368 rfl) (by decide) rfl ?_
                      refine p_ald (cc3 c178_369) rfl ?_
                      obtain ⟨g10, h⟩ := h
                      obtain ⟨g11, h⟩ := h
                      obtain ⟨g12, h⟩ := h
                      obtain ⟨g13, h⟩ := h
                      obtain ⟨A_2, he, hR_2, hp_2⟩ := S172 (A := m_hold A_1 (m_signOf A)) (Nat.le_trans (by decide) hd) hΦ (rg_hold (A := A_1) hR_1 g1 ⟨g8, g9⟩) ⟨g10, g11, g12, g13⟩
                      have h := h A_2 hR_2 hp_2
                      refine p_callV (cc3 c178_370) (Nat.le_of_ble_eq_true rfl) rfl rfl (Nat.le_of_ble_eq_true rfl) (ml_kd hΦ) he ?_
                      refine p_goto (cc3 c178_373) ?_
                      exact p_lc (ls' := [(0, .ref m), (1, .int (iz 1)), (2, .int (iz 0))]) c178_36 rfl rfl h
                    · have h := h.2 c
                      refine i_push (n := 1) (cc3 c178_363) zl_1 ?_
                      refine p_goto (cc3 c178_364) ?_
                      refine p_lc (ls' := [(0, .ref m), (1, .int (iz 1))]) c178_368 rfl rfl ?_
                      refine p_ist (ls' := [(2, .int (iz 1)), (0, .ref m), (1, .int (iz 1))]) (cct c178_368 rfl) (by decide) rfl ?_
                      refine p_ald (cc3 c178_369) rfl ?_
                      obtain ⟨g10, h⟩ := h
                      obtain ⟨g11, h⟩ := h
                      obtain ⟨g12, h⟩ := h
                      obtain ⟨g13, h⟩ := h
                      obtain ⟨A_2, he, hR_2, hp_2⟩ := S172 (A := m_hold A_1 (m_signOf A)) (Nat.le_trans (by decide) hd) hΦ (rg_hold (A := A_1) hR_1 g1 ⟨g8, g9⟩) ⟨g10, g11, g12, g13⟩
                      have h := h A_2 hR_2 hp_2
                      refine p_callV (cc3 c178_370) (Nat.le_of_ble_eq_true rfl) rfl rfl (Nat.le_of_ble_eq_true rfl) (ml_kd hΦ) he ?_
                      refine p_goto (cc3 c178_373) ?_
                      exact p_lc (ls' := [(0, .ref m), (1, .int (iz 1)), (2, .int (iz 1))]) c178_36 rfl rfl h
                  · have h := h.2 c
                    refine i_push (n := 1) (cct c178_332 rfl) zl_1 ?_
                    refine p_goto (cc3 c178_333) ?_
                    refine id (α := Rg 1 → _) (fun _ => ?_) (by decide); refine n_asti hΦ (c := 36) (n := 7) (ni := 7) (hv := (vnarB (by decide))) (cct c178_337 rfl) (by decide) rfl rfl rfl (by decide) g2 ?_
                    refine p_ald (cc3 c178_338) rfl ?_
                    refine p_ald (cc3 c178_339) rfl ?_
                    refine p_ild (cc3 c178_340) rfl ?_
                    refine p_callV (cc3 c178_341) (Nat.le_of_ble_eq_true rfl) rfl rfl (Nat.le_of_ble_eq_true rfl) (ml_kd hΦ) (S184 (Nat.le_trans (by decide) hd) hΦ (rg_UA hR (by decide)) g1) ?_
                    obtain ⟨g3, h⟩ := h
                    obtain ⟨g4, h⟩ := h
                    obtain ⟨g5, h⟩ := h
                    obtain ⟨g6, h⟩ := h
                    obtain ⟨g7, h⟩ := h
                    obtain ⟨A_1, he, hR_1, hp_1⟩ := S183 (A := UA A 36 (A 0 53) 1) (Nat.le_trans (by decide) hd) hΦ (rg_UA hR (by decide)) (by have := m_rank_b (w := (m_signOf A)); omega) ⟨g3, g4, g5, g6, g7⟩
                    have h := h A_1 hR_1 hp_1
                    refine p_callV (cc3 c178_344) (Nat.le_of_ble_eq_true rfl) rfl rfl (Nat.le_of_ble_eq_true rfl) (ml_kd hΦ) he ?_
                    refine p_ald (cc3 c178_347) rfl ?_
                    refine p_ild (cc3 c178_348) rfl ?_
                    obtain ⟨g8, h⟩ := h
                    obtain ⟨g9, h⟩ := h
                    refine p_callV (cc3 c178_349) (Nat.le_of_ble_eq_true rfl) rfl rfl (Nat.le_of_ble_eq_true rfl) (ml_kd hΦ) (S181 (Nat.le_trans (by decide) hd) hΦ hR_1 g1 ⟨g8, g9⟩) ?_
                    refine i_push (n := 1) (cc3 c178_352) zl_1 ?_
                    refine p_ist (ls' := [(1, .int (iz 1)), (0, .ref m), (3, .int (iz (m_signOf A)))]) (cc3 c178_353) (by decide) rfl ?_
                    refine p_ald (cc3 c178_354) rfl ?_
                    refine p_ild (cc3 c178_355) rfl ?_
                    refine p_callV (cc3 c178_356) (Nat.le_of_ble_eq_true rfl) rfl rfl (Nat.le_of_ble_eq_true rfl) (ml_kd hΦ) (S184 (Nat.le_trans (by decide) hd) hΦ (rg_hold (A := A_1) hR_1 g1 ⟨g8, g9⟩) g1) ?_
                    refine i_push (n := 3) (cc3 c178_359) zl_3 ?_
                    refine i_icmp (c' := 3 ≤ (m_rank (m_signOf A))) (cc3 c178_360) (iz_le (by decide) (by have := m_rank_b (w := (m_signOf A)); omega)) (fun c => ?_) (fun c => ?_)
                    · have h := h.1 c
                      refine i_push (n := 0) (cc3 c178_367) zl_0 ?_
                      refine p_lc (ls' := [(0, .ref m), (1, .int (iz 1))]) c178_368 rfl rfl ?_
                      refine p_ist (ls' := [(2, .int (iz 0)), (0, .ref m), (1, .int (iz 1))]) (cct c178_368 rfl) (by decide) rfl ?_
                      refine p_ald (cc3 c178_369) rfl ?_
                      obtain ⟨g10, h⟩ := h
                      obtain ⟨g11, h⟩ := h
                      obtain ⟨g12, h⟩ := h
                      obtain ⟨g13, h⟩ := h
                      obtain ⟨A_2, he, hR_2, hp_2⟩ := S172 (A := m_hold A_1 (m_signOf A)) (Nat.le_trans (by decide) hd) hΦ (rg_hold (A := A_1) hR_1 g1 ⟨g8, g9⟩) ⟨g10, g11, g12, g13⟩
                      have h := h A_2 hR_2 hp_2
                      refine p_callV (cc3 c178_370) (Nat.le_of_ble_eq_true rfl) rfl rfl (Nat.le_of_ble_eq_true rfl) (ml_kd hΦ) he ?_
                      refine p_goto (cc3 c178_373) ?_
                      exact p_lc (ls' := [(0, .ref m), (1, .int (iz 1)), (2, .int (iz 0))]) c178_36 rfl rfl h
                    · have h := h.2 c
                      refine i_push (n := 1) (cc3 c178_363) zl_1 ?_
                      refine p_goto (cc3 c178_364) ?_
                      refine p_lc (ls' := [(0, .ref m), (1, .int (iz 1))]) c178_368 rfl rfl ?_
                      refine p_ist (ls' := [(2, .int (iz 1)), (0, .ref m), (1, .int (iz 1))]) (cct c178_368 rfl) (by decide) rfl ?_
                      refine p_ald (cc3 c178_369) rfl ?_
                      obtain ⟨g10, h⟩ := h
                      obtain ⟨g11, h⟩ := h
                      obtain ⟨g12, h⟩ := h
                      obtain ⟨g13, h⟩ := h
                      obtain ⟨A_2, he, hR_2, hp_2⟩ := S172 (A := m_hold A_1 (m_signOf A)) (Nat.le_trans (by decide) hd) hΦ (rg_hold (A := A_1) hR_1 g1 ⟨g8, g9⟩) ⟨g10, g11, g12, g13⟩
                      have h := h A_2 hR_2 hp_2
                      refine p_callV (cc3 c178_370) (Nat.le_of_ble_eq_true rfl) rfl rfl (Nat.le_of_ble_eq_true rfl) (ml_kd hΦ) he ?_
                      refine p_goto (cc3 c178_373) ?_
                      exact p_lc (ls' := [(0, .ref m), (1, .int (iz 1)), (2, .int (iz 1))]) c178_36 rfl rfl h
            · have h := h.2 c
              refine p_lc (ls' := []) c178_292 rfl rfl ?_
              refine i_push (n := 0) (cct c178_292 rfl) zl_0 ?_
              exact i_ri (cc3 c178_293) (by decide) h
          · have h := h.2 c
            refine p_lc (ls' := [(0, .ref m), (3, .int (iz (m_signOf A)))]) c178_294 rfl rfl ?_
            refine p_ald (cct c178_294 rfl) rfl ?_
            refine pm_getp hΦ (cc3 c178_295) (c := 36) rfl (by decide) ?_
            refine p_ald (cc3 c178_298) rfl ?_
            refine n_geti hΦ (v := A 0 53) (cc3 c178_299) (ji := 53) rfl rfl ?_
            refine p_ald (cc3 c178_302) rfl ?_
            refine p_ild (cc3 c178_303) rfl ?_
            refine p_callV (cc3 c178_304) (Nat.le_of_ble_eq_true rfl) rfl rfl (Nat.le_of_ble_eq_true rfl) (ml_kd hΦ) (S184 (Nat.le_trans (by decide) hd) hΦ hR g1) ?_
            refine i_push (n := 4) (cc3 c178_307) zl_4 ?_
            refine i_icmp (c' := (m_rank (m_signOf A)) = 4) (cc3 c178_308) (iz_inj (by have := m_rank_b (w := (m_signOf A)); omega) (by decide)) (fun c => ?_) (fun c => ?_)
            · have h := h.1 c
              refine i_push (n := 1) (cct c178_332 rfl) zl_1 ?_
              refine p_goto (cc3 c178_333) ?_
              obtain ⟨g2, h⟩ := h
              refine id (α := Rg 1 → _) (fun _ => ?_) (by decide); refine n_asti hΦ (c := 36) (n := 7) (ni := 7) (hv := (vnarB (by decide))) (cct c178_337 rfl) (by decide) rfl rfl rfl (by decide) g2 ?_
              refine p_ald (cc3 c178_338) rfl ?_
              refine p_ald (cc3 c178_339) rfl ?_
              refine p_ild (cc3 c178_340) rfl ?_
              refine p_callV (cc3 c178_341) (Nat.le_of_ble_eq_true rfl) rfl rfl (Nat.le_of_ble_eq_true rfl) (ml_kd hΦ) (S184 (Nat.le_trans (by decide) hd) hΦ (rg_UA hR (by decide)) g1) ?_
              obtain ⟨g3, h⟩ := h
              obtain ⟨g4, h⟩ := h
              obtain ⟨g5, h⟩ := h
              obtain ⟨g6, h⟩ := h
              obtain ⟨g7, h⟩ := h
              obtain ⟨A_1, he, hR_1, hp_1⟩ := S183 (A := UA A 36 (A 0 53) 1) (Nat.le_trans (by decide) hd) hΦ (rg_UA hR (by decide)) (by have := m_rank_b (w := (m_signOf A)); omega) ⟨g3, g4, g5, g6, g7⟩
              have h := h A_1 hR_1 hp_1
              refine p_callV (cc3 c178_344) (Nat.le_of_ble_eq_true rfl) rfl rfl (Nat.le_of_ble_eq_true rfl) (ml_kd hΦ) he ?_
              refine p_ald (cc3 c178_347) rfl ?_
              refine p_ild (cc3 c178_348) rfl ?_
              obtain ⟨g8, h⟩ := h
              obtain ⟨g9, h⟩ := h
              refine p_callV (cc3 c178_349) (Nat.le_of_ble_eq_true rfl) rfl rfl (Nat.le_of_ble_eq_true rfl) (ml_kd hΦ) (S181 (Nat.le_trans (by decide) hd) hΦ hR_1 g1 ⟨g8, g9⟩) ?_
              refine i_push (n := 1) (cc3 c178_352) zl_1 ?_
              refine p_ist (ls' := [(1, .int (iz 1)), (0, .ref m), (3, .int (iz (m_signOf A)))]) (cc3 c178_353) (by decide) rfl ?_
              refine p_ald (cc3 c178_354) rfl ?_
              refine p_ild (cc3 c178_355) rfl ?_
              refine p_callV (cc3 c178_356) (Nat.le_of_ble_eq_true rfl) rfl rfl (Nat.le_of_ble_eq_true rfl) (ml_kd hΦ) (S184 (Nat.le_trans (by decide) hd) hΦ (rg_hold (A := A_1) hR_1 g1 ⟨g8, g9⟩) g1) ?_
              refine i_push (n := 3) (cc3 c178_359) zl_3 ?_
              refine i_icmp (c' := 3 ≤ (m_rank (m_signOf A))) (cc3 c178_360) (iz_le (by decide) (by have := m_rank_b (w := (m_signOf A)); omega)) (fun c => ?_) (fun c => ?_)
              · have h := h.1 c
                refine i_push (n := 0) (cc3 c178_367) zl_0 ?_
                refine p_lc (ls' := [(0, .ref m), (1, .int (iz 1))]) c178_368 rfl rfl ?_
                refine p_ist (ls' := [(2, .int (iz 0)), (0, .ref m), (1, .int (iz 1))]) (cct c178_368 rfl) (by decide) rfl ?_
                refine p_ald (cc3 c178_369) rfl ?_
                obtain ⟨g10, h⟩ := h
                obtain ⟨g11, h⟩ := h
                obtain ⟨g12, h⟩ := h
                obtain ⟨g13, h⟩ := h
                obtain ⟨A_2, he, hR_2, hp_2⟩ := S172 (A := m_hold A_1 (m_signOf A)) (Nat.le_trans (by decide) hd) hΦ (rg_hold (A := A_1) hR_1 g1 ⟨g8, g9⟩) ⟨g10, g11, g12, g13⟩
                have h := h A_2 hR_2 hp_2
                refine p_callV (cc3 c178_370) (Nat.le_of_ble_eq_true rfl) rfl rfl (Nat.le_of_ble_eq_true rfl) (ml_kd hΦ) he ?_
                refine p_goto (cc3 c178_373) ?_
                exact p_lc (ls' := [(0, .ref m), (1, .int (iz 1)), (2, .int (iz 0))]) c178_36 rfl rfl h
              · have h := h.2 c
                refine i_push (n := 1) (cc3 c178_363) zl_1 ?_
                refine p_goto (cc3 c178_364) ?_
                refine p_lc (ls' := [(0, .ref m), (1, .int (iz 1))]) c178_368 rfl rfl ?_
                refine p_ist (ls' := [(2, .int (iz 1)), (0, .ref m), (1, .int (iz 1))]) (cct c178_368 rfl) (by decide) rfl ?_
                refine p_ald (cc3 c178_369) rfl ?_
                obtain ⟨g10, h⟩ := h
                obtain ⟨g11, h⟩ := h
                obtain ⟨g12, h⟩ := h
                obtain ⟨g13, h⟩ := h
                obtain ⟨A_2, he, hR_2, hp_2⟩ := S172 (A := m_hold A_1 (m_signOf A)) (Nat.le_trans (by decide) hd) hΦ (rg_hold (A := A_1) hR_1 g1 ⟨g8, g9⟩) ⟨g10, g11, g12, g13⟩
                have h := h A_2 hR_2 hp_2
                refine p_callV (cc3 c178_370) (Nat.le_of_ble_eq_true rfl) rfl rfl (Nat.le_of_ble_eq_true rfl) (ml_kd hΦ) he ?_
                refine p_goto (cc3 c178_373) ?_
                exact p_lc (ls' := [(0, .ref m), (1, .int (iz 1)), (2, .int (iz 1))]) c178_36 rfl rfl h
            · have h := h.2 c
              refine p_ald (cc3 c178_311) rfl ?_
              refine p_ild (cc3 c178_312) rfl ?_
              refine p_callV (cc3 c178_313) (Nat.le_of_ble_eq_true rfl) rfl rfl (Nat.le_of_ble_eq_true rfl) (ml_kd hΦ) (S184 (Nat.le_trans (by decide) hd) hΦ hR g1) ?_
              refine i_push (n := 2) (cc3 c178_316) zl_2 ?_
              refine i_icmp (c' := (m_rank (m_signOf A)) ≤ 2) (cc3 c178_317) (iz_le (by have := m_rank_b (w := (m_signOf A)); omega) (by decide)) (fun c => ?_) (fun c => ?_)
              · have h := h.1 c
                refine i_push (n := 0) (cct c178_336 rfl) zl_0 ?_
                obtain ⟨g2, h⟩ := h
                refine id (α := Rg 0 → _) (fun _ => ?_) (by decide); refine n_asti hΦ (c := 36) (n := 7) (ni := 7) (hv := (vnarB (by decide))) (cct c178_337 rfl) (by decide) rfl rfl rfl (by decide) g2 ?_
                refine p_ald (cc3 c178_338) rfl ?_
                refine p_ald (cc3 c178_339) rfl ?_
                refine p_ild (cc3 c178_340) rfl ?_
                refine p_callV (cc3 c178_341) (Nat.le_of_ble_eq_true rfl) rfl rfl (Nat.le_of_ble_eq_true rfl) (ml_kd hΦ) (S184 (Nat.le_trans (by decide) hd) hΦ (rg_UA hR (by decide)) g1) ?_
                obtain ⟨g3, h⟩ := h
                obtain ⟨g4, h⟩ := h
                obtain ⟨g5, h⟩ := h
                obtain ⟨g6, h⟩ := h
                obtain ⟨g7, h⟩ := h
                obtain ⟨A_1, he, hR_1, hp_1⟩ := S183 (A := UA A 36 (A 0 53) 0) (Nat.le_trans (by decide) hd) hΦ (rg_UA hR (by decide)) (by have := m_rank_b (w := (m_signOf A)); omega) ⟨g3, g4, g5, g6, g7⟩
                have h := h A_1 hR_1 hp_1
                refine p_callV (cc3 c178_344) (Nat.le_of_ble_eq_true rfl) rfl rfl (Nat.le_of_ble_eq_true rfl) (ml_kd hΦ) he ?_
                refine p_ald (cc3 c178_347) rfl ?_
                refine p_ild (cc3 c178_348) rfl ?_
                obtain ⟨g8, h⟩ := h
                obtain ⟨g9, h⟩ := h
                refine p_callV (cc3 c178_349) (Nat.le_of_ble_eq_true rfl) rfl rfl (Nat.le_of_ble_eq_true rfl) (ml_kd hΦ) (S181 (Nat.le_trans (by decide) hd) hΦ hR_1 g1 ⟨g8, g9⟩) ?_
                refine i_push (n := 1) (cc3 c178_352) zl_1 ?_
                refine p_ist (ls' := [(1, .int (iz 1)), (0, .ref m), (3, .int (iz (m_signOf A)))]) (cc3 c178_353) (by decide) rfl ?_
                refine p_ald (cc3 c178_354) rfl ?_
                refine p_ild (cc3 c178_355) rfl ?_
                refine p_callV (cc3 c178_356) (Nat.le_of_ble_eq_true rfl) rfl rfl (Nat.le_of_ble_eq_true rfl) (ml_kd hΦ) (S184 (Nat.le_trans (by decide) hd) hΦ (rg_hold (A := A_1) hR_1 g1 ⟨g8, g9⟩) g1) ?_
                refine i_push (n := 3) (cc3 c178_359) zl_3 ?_
                refine i_icmp (c' := 3 ≤ (m_rank (m_signOf A))) (cc3 c178_360) (iz_le (by decide) (by have := m_rank_b (w := (m_signOf A)); omega)) (fun c => ?_) (fun c => ?_)
                · have h := h.1 c
                  refine i_push (n := 0) (cc3 c178_367) zl_0 ?_
                  refine p_lc (ls' := [(0, .ref m), (1, .int (iz 1))]) c178_368 rfl rfl ?_
                  refine p_ist (ls' := [(2, .int (iz 0)), (0, .ref m), (1, .int (iz 1))]) (cct c178_368 rfl) (by decide) rfl ?_
                  refine p_ald (cc3 c178_369) rfl ?_
                  obtain ⟨g10, h⟩ := h
                  obtain ⟨g11, h⟩ := h
                  obtain ⟨g12, h⟩ := h
                  obtain ⟨g13, h⟩ := h
                  obtain ⟨A_2, he, hR_2, hp_2⟩ := S172 (A := m_hold A_1 (m_signOf A)) (Nat.le_trans (by decide) hd) hΦ (rg_hold (A := A_1) hR_1 g1 ⟨g8, g9⟩) ⟨g10, g11, g12, g13⟩
                  have h := h A_2 hR_2 hp_2
                  refine p_callV (cc3 c178_370) (Nat.le_of_ble_eq_true rfl) rfl rfl (Nat.le_of_ble_eq_true rfl) (ml_kd hΦ) he ?_
                  refine p_goto (cc3 c178_373) ?_
                  exact p_lc (ls' := [(0, .ref m), (1, .int (iz 1)), (2, .int (iz 0))]) c178_36 rfl rfl h
                · have h := h.2 c
                  refine i_push (n := 1) (cc3 c178_363) zl_1 ?_
                  refine p_goto (cc3 c178_364) ?_
                  refine p_lc (ls' := [(0, .ref m), (1, .int (iz 1))]) c178_368 rfl rfl ?_
                  refine p_ist (ls' := [(2, .int (iz 1)), (0, .ref m), (1, .int (iz 1))]) (cct c178_368 rfl) (by decide) rfl ?_
                  refine p_ald (cc3 c178_369) rfl ?_
                  obtain ⟨g10, h⟩ := h
                  obtain ⟨g11, h⟩ := h
                  obtain ⟨g12, h⟩ := h
                  obtain ⟨g13, h⟩ := h
                  obtain ⟨A_2, he, hR_2, hp_2⟩ := S172 (A := m_hold A_1 (m_signOf A)) (Nat.le_trans (by decide) hd) hΦ (rg_hold (A := A_1) hR_1 g1 ⟨g8, g9⟩) ⟨g10, g11, g12, g13⟩
                  have h := h A_2 hR_2 hp_2
                  refine p_callV (cc3 c178_370) (Nat.le_of_ble_eq_true rfl) rfl rfl (Nat.le_of_ble_eq_true rfl) (ml_kd hΦ) he ?_
                  refine p_goto (cc3 c178_373) ?_
                  exact p_lc (ls' := [(0, .ref m), (1, .int (iz 1)), (2, .int (iz 1))]) c178_36 rfl rfl h
              · have h := h.2 c
                refine p_ald (cc3 c178_320) rfl ?_
                refine pm_getp hΦ (cc3 c178_321) (c := 36) rfl (by decide) ?_
                refine p_ald (cc3 c178_324) rfl ?_
                refine n_geti hΦ (v := A 0 53) (cc3 c178_325) (ji := 53) rfl rfl ?_
                obtain ⟨g2, h⟩ := h
                refine n_aldi hΦ (c := 36) (n := 7) (ni := 7) (cc3 c178_328) (by decide) rfl rfl rfl (by decide) g2 (v := A 36 (A 0 53)) rfl ?_
                refine i_if (c' := (A 36 (A 0 53)) = 0) (cc3 c178_329) (c_eq0 (hR 36 (A 0 53))) (fun c => ?_) (fun c => ?_)
                · have h := h.1 c
                  refine i_push (n := 0) (cct c178_336 rfl) zl_0 ?_
                  refine id (α := Rg 0 → _) (fun _ => ?_) (by decide); refine n_asti hΦ (c := 36) (n := 7) (ni := 7) (hv := (vnarB (by decide))) (cct c178_337 rfl) (by decide) rfl rfl rfl (by decide) g2 ?_
                  refine p_ald (cc3 c178_338) rfl ?_
                  refine p_ald (cc3 c178_339) rfl ?_
                  refine p_ild (cc3 c178_340) rfl ?_
                  refine p_callV (cc3 c178_341) (Nat.le_of_ble_eq_true rfl) rfl rfl (Nat.le_of_ble_eq_true rfl) (ml_kd hΦ) (S184 (Nat.le_trans (by decide) hd) hΦ (rg_UA hR (by decide)) g1) ?_
                  obtain ⟨g3, h⟩ := h
                  obtain ⟨g4, h⟩ := h
                  obtain ⟨g5, h⟩ := h
                  obtain ⟨g6, h⟩ := h
                  obtain ⟨g7, h⟩ := h
                  obtain ⟨A_1, he, hR_1, hp_1⟩ := S183 (A := UA A 36 (A 0 53) 0) (Nat.le_trans (by decide) hd) hΦ (rg_UA hR (by decide)) (by have := m_rank_b (w := (m_signOf A)); omega) ⟨g3, g4, g5, g6, g7⟩
                  have h := h A_1 hR_1 hp_1
                  refine p_callV (cc3 c178_344) (Nat.le_of_ble_eq_true rfl) rfl rfl (Nat.le_of_ble_eq_true rfl) (ml_kd hΦ) he ?_
                  refine p_ald (cc3 c178_347) rfl ?_
                  refine p_ild (cc3 c178_348) rfl ?_
                  obtain ⟨g8, h⟩ := h
                  obtain ⟨g9, h⟩ := h
                  refine p_callV (cc3 c178_349) (Nat.le_of_ble_eq_true rfl) rfl rfl (Nat.le_of_ble_eq_true rfl) (ml_kd hΦ) (S181 (Nat.le_trans (by decide) hd) hΦ hR_1 g1 ⟨g8, g9⟩) ?_
                  refine i_push (n := 1) (cc3 c178_352) zl_1 ?_
                  refine p_ist (ls' := [(1, .int (iz 1)), (0, .ref m), (3, .int (iz (m_signOf A)))]) (cc3 c178_353) (by decide) rfl ?_
                  refine p_ald (cc3 c178_354) rfl ?_
                  refine p_ild (cc3 c178_355) rfl ?_
                  refine p_callV (cc3 c178_356) (Nat.le_of_ble_eq_true rfl) rfl rfl (Nat.le_of_ble_eq_true rfl) (ml_kd hΦ) (S184 (Nat.le_trans (by decide) hd) hΦ (rg_hold (A := A_1) hR_1 g1 ⟨g8, g9⟩) g1) ?_
                  refine i_push (n := 3) (cc3 c178_359) zl_3 ?_
                  refine i_icmp (c' := 3 ≤ (m_rank (m_signOf A))) (cc3 c178_360) (iz_le (by decide) (by have := m_rank_b (w := (m_signOf A)); omega)) (fun c => ?_) (fun c => ?_)
                  · have h := h.1 c
                    refine i_push (n := 0) (cc3 c178_367) zl_0 ?_
                    refine p_lc (ls' := [(0, .ref m), (1, .int (iz 1))]) c178_368 rfl rfl ?_
                    refine p_ist (ls' := [(2, .int (iz 0)), (0, .ref m), (1, .int (iz 1))]) (cct c178_368 rfl) (by decide) rfl ?_
                    refine p_ald (cc3 c178_369) rfl ?_
                    obtain ⟨g10, h⟩ := h
                    obtain ⟨g11, h⟩ := h
                    obtain ⟨g12, h⟩ := h
                    obtain ⟨g13, h⟩ := h
                    obtain ⟨A_2, he, hR_2, hp_2⟩ := S172 (A := m_hold A_1 (m_signOf A)) (Nat.le_trans (by decide) hd) hΦ (rg_hold (A := A_1) hR_1 g1 ⟨g8, g9⟩) ⟨g10, g11, g12, g13⟩
                    have h := h A_2 hR_2 hp_2
                    refine p_callV (cc3 c178_370) (Nat.le_of_ble_eq_true rfl) rfl rfl (Nat.le_of_ble_eq_true rfl) (ml_kd hΦ) he ?_
                    refine p_goto (cc3 c178_373) ?_
                    exact p_lc (ls' := [(0, .ref m), (1, .int (iz 1)), (2, .int (iz 0))]) c178_36 rfl rfl h
                  · have h := h.2 c
                    refine i_push (n := 1) (cc3 c178_363) zl_1 ?_
                    refine p_goto (cc3 c178_364) ?_
                    refine p_lc (ls' := [(0, .ref m), (1, .int (iz 1))]) c178_368 rfl rfl ?_
                    refine p_ist (ls' := [(2, .int (iz 1)), (0, .ref m), (1, .int (iz 1))]) (cct c178_368 rfl) (by decide) rfl ?_
                    refine p_ald (cc3 c178_369) rfl ?_
                    obtain ⟨g10, h⟩ := h
                    obtain ⟨g11, h⟩ := h
                    obtain ⟨g12, h⟩ := h
                    obtain ⟨g13, h⟩ := h
                    obtain ⟨A_2, he, hR_2, hp_2⟩ := S172 (A := m_hold A_1 (m_signOf A)) (Nat.le_trans (by decide) hd) hΦ (rg_hold (A := A_1) hR_1 g1 ⟨g8, g9⟩) ⟨g10, g11, g12, g13⟩
                    have h := h A_2 hR_2 hp_2
                    refine p_callV (cc3 c178_370) (Nat.le_of_ble_eq_true rfl) rfl rfl (Nat.le_of_ble_eq_true rfl) (ml_kd hΦ) he ?_
                    refine p_goto (cc3 c178_373) ?_
                    exact p_lc (ls' := [(0, .ref m), (1, .int (iz 1)), (2, .int (iz 1))]) c178_36 rfl rfl h
                · have h := h.2 c
                  refine i_push (n := 1) (cct c178_332 rfl) zl_1 ?_
                  refine p_goto (cc3 c178_333) ?_
                  refine id (α := Rg 1 → _) (fun _ => ?_) (by decide); refine n_asti hΦ (c := 36) (n := 7) (ni := 7) (hv := (vnarB (by decide))) (cct c178_337 rfl) (by decide) rfl rfl rfl (by decide) g2 ?_
                  refine p_ald (cc3 c178_338) rfl ?_
                  refine p_ald (cc3 c178_339) rfl ?_
                  refine p_ild (cc3 c178_340) rfl ?_
                  refine p_callV (cc3 c178_341) (Nat.le_of_ble_eq_true rfl) rfl rfl (Nat.le_of_ble_eq_true rfl) (ml_kd hΦ) (S184 (Nat.le_trans (by decide) hd) hΦ (rg_UA hR (by decide)) g1) ?_
                  obtain ⟨g3, h⟩ := h
                  obtain ⟨g4, h⟩ := h
                  obtain ⟨g5, h⟩ := h
                  obtain ⟨g6, h⟩ := h
                  obtain ⟨g7, h⟩ := h
                  obtain ⟨A_1, he, hR_1, hp_1⟩ := S183 (A := UA A 36 (A 0 53) 1) (Nat.le_trans (by decide) hd) hΦ (rg_UA hR (by decide)) (by have := m_rank_b (w := (m_signOf A)); omega) ⟨g3, g4, g5, g6, g7⟩
                  have h := h A_1 hR_1 hp_1
                  refine p_callV (cc3 c178_344) (Nat.le_of_ble_eq_true rfl) rfl rfl (Nat.le_of_ble_eq_true rfl) (ml_kd hΦ) he ?_
                  refine p_ald (cc3 c178_347) rfl ?_
                  refine p_ild (cc3 c178_348) rfl ?_
                  obtain ⟨g8, h⟩ := h
                  obtain ⟨g9, h⟩ := h
                  refine p_callV (cc3 c178_349) (Nat.le_of_ble_eq_true rfl) rfl rfl (Nat.le_of_ble_eq_true rfl) (ml_kd hΦ) (S181 (Nat.le_trans (by decide) hd) hΦ hR_1 g1 ⟨g8, g9⟩) ?_
                  refine i_push (n := 1) (cc3 c178_352) zl_1 ?_
                  refine p_ist (ls' := [(1, .int (iz 1)), (0, .ref m), (3, .int (iz (m_signOf A)))]) (cc3 c178_353) (by decide) rfl ?_
                  refine p_ald (cc3 c178_354) rfl ?_
                  refine p_ild (cc3 c178_355) rfl ?_
                  refine p_callV (cc3 c178_356) (Nat.le_of_ble_eq_true rfl) rfl rfl (Nat.le_of_ble_eq_true rfl) (ml_kd hΦ) (S184 (Nat.le_trans (by decide) hd) hΦ (rg_hold (A := A_1) hR_1 g1 ⟨g8, g9⟩) g1) ?_
                  refine i_push (n := 3) (cc3 c178_359) zl_3 ?_
                  refine i_icmp (c' := 3 ≤ (m_rank (m_signOf A))) (cc3 c178_360) (iz_le (by decide) (by have := m_rank_b (w := (m_signOf A)); omega)) (fun c => ?_) (fun c => ?_)
                  · have h := h.1 c
                    refine i_push (n := 0) (cc3 c178_367) zl_0 ?_
                    refine p_lc (ls' := [(0, .ref m), (1, .int (iz 1))]) c178_368 rfl rfl ?_
                    refine p_ist (ls' := [(2, .int (iz 0)), (0, .ref m), (1, .int (iz 1))]) (cct c178_368 rfl) (by decide) rfl ?_
                    refine p_ald (cc3 c178_369) rfl ?_
                    obtain ⟨g10, h⟩ := h
                    obtain ⟨g11, h⟩ := h
                    obtain ⟨g12, h⟩ := h
                    obtain ⟨g13, h⟩ := h
                    obtain ⟨A_2, he, hR_2, hp_2⟩ := S172 (A := m_hold A_1 (m_signOf A)) (Nat.le_trans (by decide) hd) hΦ (rg_hold (A := A_1) hR_1 g1 ⟨g8, g9⟩) ⟨g10, g11, g12, g13⟩
                    have h := h A_2 hR_2 hp_2
                    refine p_callV (cc3 c178_370) (Nat.le_of_ble_eq_true rfl) rfl rfl (Nat.le_of_ble_eq_true rfl) (ml_kd hΦ) he ?_
                    refine p_goto (cc3 c178_373) ?_
                    exact p_lc (ls' := [(0, .ref m), (1, .int (iz 1)), (2, .int (iz 0))]) c178_36 rfl rfl h
                  · have h := h.2 c
                    refine i_push (n := 1) (cc3 c178_363) zl_1 ?_
                    refine p_goto (cc3 c178_364) ?_
                    refine p_lc (ls' := [(0, .ref m), (1, .int (iz 1))]) c178_368 rfl rfl ?_
                    refine p_ist (ls' := [(2, .int (iz 1)), (0, .ref m), (1, .int (iz 1))]) (cct c178_368 rfl) (by decide) rfl ?_
                    refine p_ald (cc3 c178_369) rfl ?_
                    obtain ⟨g10, h⟩ := h
                    obtain ⟨g11, h⟩ := h
                    obtain ⟨g12, h⟩ := h
                    obtain ⟨g13, h⟩ := h
                    obtain ⟨A_2, he, hR_2, hp_2⟩ := S172 (A := m_hold A_1 (m_signOf A)) (Nat.le_trans (by decide) hd) hΦ (rg_hold (A := A_1) hR_1 g1 ⟨g8, g9⟩) ⟨g10, g11, g12, g13⟩
                    have h := h A_2 hR_2 hp_2
                    refine p_callV (cc3 c178_370) (Nat.le_of_ble_eq_true rfl) rfl rfl (Nat.le_of_ble_eq_true rfl) (ml_kd hΦ) he ?_
                    refine p_goto (cc3 c178_373) ?_
                    exact p_lc (ls' := [(0, .ref m), (1, .int (iz 1)), (2, .int (iz 1))]) c178_36 rfl rfl h
      · have h := h.2 c
        refine p_ald (cc3 c178_205) rfl ?_
        refine n_geti hΦ (v := A 0 53) (cc3 c178_206) (ji := 53) rfl rfl ?_
        refine i_if (c' := (A 0 53) = 0) (cc3 c178_209) (c_eq0 (hR 0 53)) (fun c => ?_) (fun c => ?_)
        · have h := h.1 c
          refine i_push (n := 0) (cc3 c178_212) zl_0 ?_
          exact i_ri (cc3 c178_213) (by decide) h
        · have h := h.2 c
          refine p_ald (cc3 c178_214) rfl ?_
          refine i_push (n := 1) (cc3 c178_215) zl_1 ?_
          obtain ⟨g1, h⟩ := h
          obtain ⟨g2, h⟩ := h
          obtain ⟨g3, h⟩ := h
          obtain ⟨g4, h⟩ := h
          obtain ⟨g5, h⟩ := h
          obtain ⟨A_1, he, hR_1, hp_1⟩ := S183 (A := A) (Nat.le_trans (by decide) hd) hΦ hR (by decide) ⟨g1, g2, g3, g4, g5⟩
          have h := h A_1 hR_1 hp_1
          refine p_callV (cc3 c178_216) (Nat.le_of_ble_eq_true rfl) rfl rfl (Nat.le_of_ble_eq_true rfl) (ml_kd hΦ) he ?_
          refine p_ald (cc3 c178_219) rfl ?_
          refine p_dup (cc3 c178_220) rfl ?_
          refine n_geti hΦ (v := A_1 0 52) (cc3 c178_221) (ji := 52) rfl rfl ?_
          refine i_push (n := 1) (cc3 c178_224) zl_1 ?_
          obtain ⟨g6, h⟩ := h
          refine (fun _ : Rg ((A_1 0 52) - 1) => i_sub (cc3 c178_225) ?_) g6
          refine (fun _ : Rg ((A_1 0 52) - 1) => n_puti hΦ (cc3 c178_226) (ji := 52) rfl ?_) g6
          refine p_ald (cc3 c178_229) rfl ?_
          refine p_dup (cc3 c178_230) rfl ?_
          refine n_geti hΦ (v := A_1 0 54) (cc3 c178_231) (ji := 54) rfl rfl ?_
          refine i_push (n := 1) (cc3 c178_234) zl_1 ?_
          obtain ⟨g7, h⟩ := h
          refine (fun _ : Rg ((A_1 0 54) - 1) => i_sub (cc3 c178_235) ?_) g7
          refine (fun _ : Rg ((A_1 0 54) - 1) => n_puti hΦ (cc3 c178_236) (ji := 54) rfl ?_) g7
          refine p_ald (cc3 c178_239) rfl ?_
          refine p_dup (cc3 c178_240) rfl ?_
          refine n_geti hΦ (v := A_1 0 53) (cc3 c178_241) (ji := 53) rfl rfl ?_
          refine i_push (n := 1) (cc3 c178_244) zl_1 ?_
          obtain ⟨g8, h⟩ := h
          refine (fun _ : Rg ((A_1 0 53) - 1) => i_sub (cc3 c178_245) ?_) g8
          refine (fun _ : Rg ((A_1 0 53) - 1) => n_puti hΦ (cc3 c178_246) (ji := 53) rfl ?_) g8
          refine p_ald (cc3 c178_249) rfl ?_
          refine i_push (n := 7) (cc3 c178_250) zl_7 ?_
          obtain ⟨g9, h⟩ := h
          obtain ⟨g10, h⟩ := h
          obtain ⟨g11, h⟩ := h
          obtain ⟨g12, h⟩ := h
          obtain ⟨g13, h⟩ := h
          obtain ⟨A_2, he, hR_2, hp_2⟩ := S183 (A := UA (UA (UA A_1 0 52 ((A_1 0 52) - 1)) 0 54 ((A_1 0 54) - 1)) 0 53 ((A_1 0 53) - 1)) (Nat.le_trans (by decide) hd) hΦ (rg_UA (rg_UA (rg_UA hR_1 g6) g7) g8) (by decide) ⟨g9, g10, g11, g12, g13⟩
          have h := h A_2 hR_2 hp_2
          refine p_callV (cc3 c178_252) (Nat.le_of_ble_eq_true rfl) rfl rfl (Nat.le_of_ble_eq_true rfl) (ml_kd hΦ) he ?_
          refine p_ald (cc3 c178_255) rfl ?_
          obtain ⟨g14, h⟩ := h
          obtain ⟨g15, h⟩ := h
          obtain ⟨g16, h⟩ := h
          obtain ⟨g17, h⟩ := h
          obtain ⟨A_3, he, hR_3, hp_3⟩ := S172 (A := A_2) (Nat.le_trans (by decide) hd) hΦ hR_2 ⟨g14, g15, g16, g17⟩
          have h := h A_3 hR_3 hp_3
          refine p_callV (cc3 c178_256) (Nat.le_of_ble_eq_true rfl) rfl rfl (Nat.le_of_ble_eq_true rfl) (ml_kd hΦ) he ?_
          refine p_goto (cc3 c178_259) ?_
          exact h
    · have h := h.2 c
      refine p_ald (cc3 c178_178) rfl ?_
      refine i_push (n := 1) (cc3 c178_179) zl_1 ?_
      obtain ⟨g1, h⟩ := h
      obtain ⟨g2, h⟩ := h
      obtain ⟨g3, h⟩ := h
      obtain ⟨g4, h⟩ := h
      obtain ⟨g5, h⟩ := h
      obtain ⟨A_1, he, hR_1, hp_1⟩ := S183 (A := A) (Nat.le_trans (by decide) hd) hΦ hR (by decide) ⟨g1, g2, g3, g4, g5⟩
      have h := h A_1 hR_1 hp_1
      refine p_callV (cc3 c178_180) (Nat.le_of_ble_eq_true rfl) rfl rfl (Nat.le_of_ble_eq_true rfl) (ml_kd hΦ) he ?_
      refine p_ald (cc3 c178_183) rfl ?_
      refine n_geti hΦ (v := A_1 0 53) (cc3 c178_184) (ji := 53) rfl rfl ?_
      refine i_if (c' := (A_1 0 53) = 0) (cc3 c178_187) (c_eq0 (hR_1 0 53)) (fun c => ?_) (fun c => ?_)
      · have h := h.1 c
        refine i_push (n := 1) (cc3 c178_190) zl_1 ?_
        refine p_goto (cc3 c178_191) ?_
        refine p_lc (ls' := []) c178_195 rfl rfl ?_
        exact i_ri (cct c178_195 rfl) (by decide) h
      · have h := h.2 c
        refine i_push (n := 0) (cc3 c178_194) zl_0 ?_
        refine p_lc (ls' := []) c178_195 rfl rfl ?_
        exact i_ri (cct c178_195 rfl) (by decide) h
  · have h := h.2 c
    refine p_ald (cc3 c178_40) rfl ?_
    refine p_ild (cc3 c178_41) rfl ?_
    obtain ⟨g1, h⟩ := h
    refine p_callV (cc3 c178_42) (Nat.le_of_ble_eq_true rfl) rfl rfl (Nat.le_of_ble_eq_true rfl) (ml_kd hΦ) (S179 (Nat.le_trans (by decide) hd) hΦ hR rr.2 g1) ?_
    refine i_ifB (cc3 c178_45) (fun c => ?_) (fun c => ?_)
    · have h := h.1 c
      refine i_push (n := 0) (cc3 c178_48) zl_0 ?_
      exact i_ri (cc3 c178_49) (by decide) h
    · have h := h.2 c
      refine p_ald (cc3 c178_50) rfl ?_
      refine i_push (n := 4) (cc3 c178_51) zl_4 ?_
      refine p_callV (cc3 c178_52) (Nat.le_of_ble_eq_true rfl) rfl rfl (Nat.le_of_ble_eq_true rfl) (ml_kd hΦ) (S177 (Nat.le_trans (by decide) hd) hΦ hR (by decide)) ?_
      refine i_ifB (cc3 c178_55) (fun c => ?_) (fun c => ?_)
      · have h := h.1 c
        refine p_ald (cc3 c178_67) rfl ?_
        refine i_push (n := 45) (cc3 c178_68) zl_45 ?_
        refine p_callV (cc3 c178_70) (Nat.le_of_ble_eq_true rfl) rfl rfl (Nat.le_of_ble_eq_true rfl) (ml_kd hΦ) (S180 (Nat.le_trans (by decide) hd) hΦ hR (by decide)) ?_
        refine i_ifB (cc3 c178_73) (fun c => ?_) (fun c => ?_)
        · have h := h.1 c
          refine p_ald (cc3 c178_87) rfl ?_
          refine i_push (n := 40) (cc3 c178_88) zl_40 ?_
          refine p_callV (cc3 c178_90) (Nat.le_of_ble_eq_true rfl) rfl rfl (Nat.le_of_ble_eq_true rfl) (ml_kd hΦ) (S180 (Nat.le_trans (by decide) hd) hΦ hR (by decide)) ?_
          refine i_ifB (cc3 c178_93) (fun c => ?_) (fun c => ?_)
          · have h := h.1 c
            refine p_ald (cc3 c178_127) rfl ?_
            refine p_ald (cc3 c178_128) rfl ?_
            refine n_geti hΦ (v := A 0 47) (cc3 c178_129) (ji := 47) rfl rfl ?_
            refine i_push (n := 1) (cc3 c178_132) zl_1 ?_
            refine i_icmp (c' := (A 0 47) = 1) (cc3 c178_133) (iz_inj (hR 0 47) (by decide)) (fun c => ?_) (fun c => ?_)
            · have h := h.1 c
              refine p_ald (cc3 c178_136) rfl ?_
              refine n_geti hΦ (v := A 0 48) (cc3 c178_137) (ji := 48) rfl rfl ?_
              refine p_goto (cc3 c178_140) ?_
              refine p_lc (ls' := [(0, .ref m), (2, .int (iz x2))]) c178_151 rfl rfl ?_
              obtain ⟨g2, h⟩ := h
              obtain ⟨g3, h⟩ := h
              refine p_callV (cct c178_151 rfl) (Nat.le_of_ble_eq_true rfl) rfl rfl (Nat.le_of_ble_eq_true rfl) (ml_kd hΦ) (S182 (Nat.le_trans (by decide) hd) hΦ hR (hR 0 48) ⟨g2, g3⟩) ?_
              refine p_ald (cc3 c178_154) rfl ?_
              refine i_push (n := 7) (cc3 c178_155) zl_7 ?_
              obtain ⟨g4, h⟩ := h
              obtain ⟨g5, h⟩ := h
              obtain ⟨g6, h⟩ := h
              obtain ⟨g7, h⟩ := h
              obtain ⟨g8, h⟩ := h
              obtain ⟨A_1, he, hR_1, hp_1⟩ := S183 (A := m_put A (A 0 48)) (Nat.le_trans (by decide) hd) hΦ (rg_put (A := A) hR (hR 0 48) ⟨g2, g3⟩) (by decide) ⟨g4, g5, g6, g7, g8⟩
              have h := h A_1 hR_1 hp_1
              refine p_callV (cc3 c178_157) (Nat.le_of_ble_eq_true rfl) rfl rfl (Nat.le_of_ble_eq_true rfl) (ml_kd hΦ) he ?_
              refine i_push (n := 0) (cc3 c178_160) zl_0 ?_
              refine p_ist (ls' := [(1, .int (iz 0)), (0, .ref m), (2, .int (iz x2))]) (cc3 c178_161) (by decide) rfl ?_
              refine p_lc (ls' := [(0, .ref m), (1, .int (iz 0)), (2, .int (iz x2))]) c178_162 rfl rfl ?_
              refine p_ald (cct c178_162 rfl) rfl ?_
              obtain ⟨g9, h⟩ := h
              obtain ⟨g10, h⟩ := h
              obtain ⟨g11, h⟩ := h
              obtain ⟨g12, h⟩ := h
              obtain ⟨A_2, he, hR_2, hp_2⟩ := S172 (A := A_1) (Nat.le_trans (by decide) hd) hΦ hR_1 ⟨g9, g10, g11, g12⟩
              have h := h A_2 hR_2 hp_2
              refine p_callV (cc3 c178_163) (Nat.le_of_ble_eq_true rfl) rfl rfl (Nat.le_of_ble_eq_true rfl) (ml_kd hΦ) he ?_
              refine p_goto (cc3 c178_166) ?_
              exact h
            · have h := h.2 c
              refine i_push (n := 10000) (cc3 c178_143) zl_10000 ?_
              refine p_ald (cc3 c178_146) rfl ?_
              refine n_geti hΦ (v := A 0 48) (cc3 c178_147) (ji := 48) rfl rfl ?_
              obtain ⟨g2, h⟩ := h
              refine (fun _ : Rg (10000 + (A 0 48)) => i_add (cc3 c178_150) ?_) g2
              refine p_lc (ls' := [(0, .ref m), (2, .int (iz x2))]) c178_151 rfl rfl ?_
              obtain ⟨g3, h⟩ := h
              obtain ⟨g4, h⟩ := h
              refine p_callV (cct c178_151 rfl) (Nat.le_of_ble_eq_true rfl) rfl rfl (Nat.le_of_ble_eq_true rfl) (ml_kd hΦ) (S182 (Nat.le_trans (by decide) hd) hΦ hR g2 ⟨g3, g4⟩) ?_
              refine p_ald (cc3 c178_154) rfl ?_
              refine i_push (n := 7) (cc3 c178_155) zl_7 ?_
              obtain ⟨g5, h⟩ := h
              obtain ⟨g6, h⟩ := h
              obtain ⟨g7, h⟩ := h
              obtain ⟨g8, h⟩ := h
              obtain ⟨g9, h⟩ := h
              obtain ⟨A_1, he, hR_1, hp_1⟩ := S183 (A := m_put A (10000 + (A 0 48))) (Nat.le_trans (by decide) hd) hΦ (rg_put (A := A) hR g2 ⟨g3, g4⟩) (by decide) ⟨g5, g6, g7, g8, g9⟩
              have h := h A_1 hR_1 hp_1
              refine p_callV (cc3 c178_157) (Nat.le_of_ble_eq_true rfl) rfl rfl (Nat.le_of_ble_eq_true rfl) (ml_kd hΦ) he ?_
              refine i_push (n := 0) (cc3 c178_160) zl_0 ?_
              refine p_ist (ls' := [(1, .int (iz 0)), (0, .ref m), (2, .int (iz x2))]) (cc3 c178_161) (by decide) rfl ?_
              refine p_lc (ls' := [(0, .ref m), (1, .int (iz 0)), (2, .int (iz x2))]) c178_162 rfl rfl ?_
              refine p_ald (cct c178_162 rfl) rfl ?_
              obtain ⟨g10, h⟩ := h
              obtain ⟨g11, h⟩ := h
              obtain ⟨g12, h⟩ := h
              obtain ⟨g13, h⟩ := h
              obtain ⟨A_2, he, hR_2, hp_2⟩ := S172 (A := A_1) (Nat.le_trans (by decide) hd) hΦ hR_1 ⟨g10, g11, g12, g13⟩
              have h := h A_2 hR_2 hp_2
              refine p_callV (cc3 c178_163) (Nat.le_of_ble_eq_true rfl) rfl rfl (Nat.le_of_ble_eq_true rfl) (ml_kd hΦ) he ?_
              refine p_goto (cc3 c178_166) ?_
              exact h
          · have h := h.2 c
            refine p_ald (cc3 c178_96) rfl ?_
            refine i_push (n := (-10)) (cc3 c178_97) zl_m10 ?_
            obtain ⟨g2, h⟩ := h
            obtain ⟨g3, h⟩ := h
            refine p_callV (cc3 c178_99) (Nat.le_of_ble_eq_true rfl) rfl rfl (Nat.le_of_ble_eq_true rfl) (ml_kd hΦ) (S181 (Nat.le_trans (by decide) hd) hΦ hR (by decide) ⟨g2, g3⟩) ?_
            refine p_ald (cc3 c178_102) rfl ?_
            refine p_dup (cc3 c178_103) rfl ?_
            refine n_geti hΦ (v := (m_hold A (-10)) 0 53) (cc3 c178_104) (ji := 53) rfl rfl ?_
            refine i_push (n := 1) (cc3 c178_107) zl_1 ?_
            obtain ⟨g4, h⟩ := h
            refine (fun _ : Rg (((m_hold A (-10)) 0 53) + 1) => i_add (cc3 c178_108) ?_) g4
            refine (fun _ : Rg (((m_hold A (-10)) 0 53) + 1) => n_puti hΦ (cc3 c178_109) (ji := 53) rfl ?_) g4
            refine p_ald (cc3 c178_112) rfl ?_
            refine pm_getp hΦ (cc3 c178_113) (c := 36) rfl (by decide) ?_
            refine p_ald (cc3 c178_116) rfl ?_
            refine n_geti hΦ (v := ((m_hold A (-10)) 0 53) + 1) (cc3 c178_117) (ji := 53) rfl rfl ?_
            refine i_push (n := 0) (cc3 c178_120) zl_0 ?_
            obtain ⟨g5, h⟩ := h
            refine id (α := Rg 0 → _) (fun _ => ?_) (by decide); refine n_asti hΦ (c := 36) (n := 7) (ni := 7) (hv := (vnarB (by decide))) (cc3 c178_121) (by decide) rfl rfl rfl (by decide) g5 ?_
            refine i_push (n := 1) (cc3 c178_122) zl_1 ?_
            refine p_ist (ls' := [(2, .int (iz 1)), (0, .ref m), (1, .int (iz x1))]) (cc3 c178_123) (by decide) rfl ?_
            refine p_goto (cc3 c178_124) ?_
            refine p_lc (ls' := [(0, .ref m), (1, .int (iz x1)), (2, .int (iz 1))]) c178_162 rfl rfl ?_
            refine p_ald (cct c178_162 rfl) rfl ?_
            obtain ⟨g6, h⟩ := h
            obtain ⟨g7, h⟩ := h
            obtain ⟨g8, h⟩ := h
            obtain ⟨g9, h⟩ := h
            obtain ⟨A_1, he, hR_1, hp_1⟩ := S172 (A := UA (UA (m_hold A (-10)) 0 53 (((m_hold A (-10)) 0 53) + 1)) 36 (((m_hold A (-10)) 0 53) + 1) 0) (Nat.le_trans (by decide) hd) hΦ (rg_UA (rg_UA (rg_hold (A := A) hR (by decide) ⟨g2, g3⟩) g4) (by decide)) ⟨g6, g7, g8, g9⟩
            have h := h A_1 hR_1 hp_1
            refine p_callV (cc3 c178_163) (Nat.le_of_ble_eq_true rfl) rfl rfl (Nat.le_of_ble_eq_true rfl) (ml_kd hΦ) he ?_
            refine p_goto (cc3 c178_166) ?_
            exact h
        · have h := h.2 c
          refine p_ald (cc3 c178_76) rfl ?_
          refine i_push (n := (-9)) (cc3 c178_77) zl_m9 ?_
          obtain ⟨g2, h⟩ := h
          obtain ⟨g3, h⟩ := h
          refine p_callV (cc3 c178_79) (Nat.le_of_ble_eq_true rfl) rfl rfl (Nat.le_of_ble_eq_true rfl) (ml_kd hΦ) (S181 (Nat.le_trans (by decide) hd) hΦ hR (by decide) ⟨g2, g3⟩) ?_
          refine i_push (n := 0) (cc3 c178_82) zl_0 ?_
          refine p_ist (ls' := [(2, .int (iz 0)), (0, .ref m), (1, .int (iz x1))]) (cc3 c178_83) (by decide) rfl ?_
          refine p_goto (cc3 c178_84) ?_
          refine p_lc (ls' := [(0, .ref m), (1, .int (iz x1)), (2, .int (iz 0))]) c178_162 rfl rfl ?_
          refine p_ald (cct c178_162 rfl) rfl ?_
          obtain ⟨g4, h⟩ := h
          obtain ⟨g5, h⟩ := h
          obtain ⟨g6, h⟩ := h
          obtain ⟨g7, h⟩ := h
          obtain ⟨A_1, he, hR_1, hp_1⟩ := S172 (A := m_hold A (-9)) (Nat.le_trans (by decide) hd) hΦ (rg_hold (A := A) hR (by decide) ⟨g2, g3⟩) ⟨g4, g5, g6, g7⟩
          have h := h A_1 hR_1 hp_1
          refine p_callV (cc3 c178_163) (Nat.le_of_ble_eq_true rfl) rfl rfl (Nat.le_of_ble_eq_true rfl) (ml_kd hΦ) he ?_
          refine p_goto (cc3 c178_166) ?_
          exact h
      · have h := h.2 c
        refine p_ald (cc3 c178_58) rfl ?_
        refine i_push (n := (-3)) (cc3 c178_59) zl_m3 ?_
        obtain ⟨g2, h⟩ := h
        obtain ⟨g3, h⟩ := h
        refine p_callV (cc3 c178_61) (Nat.le_of_ble_eq_true rfl) rfl rfl (Nat.le_of_ble_eq_true rfl) (ml_kd hΦ) (S181 (Nat.le_trans (by decide) hd) hΦ hR (by decide) ⟨g2, g3⟩) ?_
        refine p_goto (cc3 c178_64) ?_
        refine p_ald (cct c178_162 rfl) rfl ?_
        obtain ⟨g4, h⟩ := h
        obtain ⟨g5, h⟩ := h
        obtain ⟨g6, h⟩ := h
        obtain ⟨g7, h⟩ := h
        obtain ⟨A_1, he, hR_1, hp_1⟩ := S172 (A := m_hold A (-3)) (Nat.le_trans (by decide) hd) hΦ (rg_hold (A := A) hR (by decide) ⟨g2, g3⟩) ⟨g4, g5, g6, g7⟩
        have h := h A_1 hR_1 hp_1
        refine p_callV (cc3 c178_163) (Nat.le_of_ble_eq_true rfl) rfl rfl (Nat.le_of_ble_eq_true rfl) (ml_kd hΦ) he ?_
        refine p_goto (cc3 c178_166) ?_
        exact h
theorem tkC_r {t : Int → Int} {n p : Int} : tkC t n p = 400 ∨ tkC t n p = 401 ∨ tkC t n p = 402 ∨ (200 ≤ tkC t n p ∧ tkC t n p ≤ 210) ∨ isSg (tkC t n p) := by
  have := wkT_b (t := t) (b := tkB t n p) (e := tkE t n p)
  unfold tkC
  (repeat' split) <;> omega
theorem tkC_lt {t : Int → Int} {n p : Int} (h : ¬ tkC t n p = 401) : tkB t n p < n := by
  apply Classical.byContradiction
  intro q
  exact h (by unfold tkC; rw [if_pos (by omega)])
/-- how many brackets wait -/
def cntB : List Int → Int
  | [] => 0
  | x :: s => (if x = -10 then 1 else 0) + cntB s
/-- the reader's state, scanning from q on -/
def PB (A0 : Nat → Int → Int) (t : Int → Int) (n o : Int) (A : Nat → Int → Int) (S out : List Int) (F : Int → Int) (op q : Int) : Prop := RG A ∧ Fr [33, 34, 35, 36] [46, 47, 48, 49, 52, 53, 54] A0 A ∧ (∀ i : Int, ¬ i = o → A 33 i = A0 33 i) ∧ (∀ i : Int, i < 160 * o ∨ 160 * o + 160 ≤ i → A 34 i = A0 34 i) ∧ (A 1 = t ∧ A 0 1 = n ∧ A 0 55 = o ∧ A 0 46 = q) ∧ wts A = S ∧ puts A = out ∧ A 36 = F ∧ A 0 54 = op ∧ 0 ≤ A 0 52 ∧ 0 ≤ A 33 o ∧ A 33 o + A 0 52 ≤ q ∧ A 0 53 = cntB S
/-- the same, with the token from p on read -/
def PS (A0 : Nat → Int → Int) (t : Int → Int) (n o : Int) (A : Nat → Int → Int) (S out : List Int) (F : Int → Int) (op p : Int) : Prop := PB A0 t n o A S out F op (tkE t n p) ∧ Cur A t n p ∧ A 33 o + A 0 52 ≤ p ∧ 0 ≤ p ∧ p ≤ n
theorem PB.nx {A0 A A2 : Nat → Int → Int} {t : Int → Int} {n o : Int} {S out : List Int} {F : Int → Int} {op q : Int} (h : PB A0 t n o A S out F op q) (hq : 0 ≤ q ∧ q ≤ n) (hR : RG A2) (hF : Fr [] [46, 47, 48, 49] A A2) (hc : Cur A2 (A 1) (A 0 1) (A 0 46)) : PS A0 t n o A2 S out F op q := by
  obtain ⟨h1, h2, h3, h4, ⟨h5, h6, h7, h8⟩, h9, h10, h11, h12, h13, h14, h15, h16⟩ := h
  rw [h5, h6, h8] at hc
  have r : ∀ c, ¬ c = 0 → A2 c = A c := fun c hc => hF.1 c (by simp) hc
  have e52 : A2 0 52 = A 0 52 := hF.2 52 (by decide)
  have te := tkE_b (t := t) (n := n) (p := q) hq.2
  refine ⟨⟨hR, h2.tr (hF.mono (by simp) (fun j h => by revert h; simp; omega)), fun i hi => by rw [r 33 (by decide)]; exact h3 i hi, fun i hi => by rw [r 34 (by decide)]; exact h4 i hi, ⟨by rw [r 1 (by decide)]; exact h5, by rw [hF.2 1 (by decide)]; exact h6, by rw [hF.2 55 (by decide)]; exact h7, hc.2.1⟩, ?_, ?_, by rw [r 36 (by decide)]; exact h11, by rw [hF.2 54 (by decide)]; exact h12, by rw [e52]; exact h13, by rw [r 33 (by decide)]; exact h14, by rw [r 33 (by decide), e52]; omega, by rw [hF.2 53 (by decide)]; exact h16⟩, hc, by rw [r 33 (by decide), e52]; exact h15, hq.1, hq.2⟩
  · rw [← h9]; exact wts_c (r 35 (by decide)) e52
  · rw [← h10]; exact puts_c (r 34 (by decide)) (r 33 (by decide)) (hF.2 55 (by decide))
/-- the token's code by the model's fields -/
theorem Cur.tok {A : Nat → Int → Int} {t : Int → Int} {n p : Int} (h : Cur A t n p) : (A 0 47 = 1 ↔ tkC t n p = 400) ∧ (A 0 47 = 2 ↔ 205 ≤ tkC t n p ∧ tkC t n p ≤ 210) ∧ (∀ k : Int, 0 ≤ k → k ≤ 4 → ((A 0 47 = 3 ∧ A 0 48 = k) ↔ tkC t n p = 200 + k)) ∧ (∀ c : Int, isSg c → ((A 0 47 = 4 ∧ A 0 48 = c) ↔ tkC t n p = c)) ∧ (tkC t n p = 400 → A 0 48 = tkV t n p) ∧ (205 ≤ tkC t n p → tkC t n p ≤ 210 → A 0 48 = tkC t n p - 205) := by
  obtain ⟨-, -, h1, h2⟩ := h
  have hr := tkC_r (t := t) (n := n) (p := p)
  generalize tkC t n p = c at h1 h2 hr ⊢
  unfold mTok at h1
  unfold mVal at h2
  unfold isSg at hr
  refine ⟨?_, ?_, fun k k1 k2 => ?_, fun k hk => ?_, fun q => ?_, fun q1 q2 => ?_⟩
  · (repeat' split at h1) <;> omega
  · (repeat' split at h1) <;> omega
  · rcases hr with e | e | e | e | e
    · subst e; simp at h1; omega
    · subst e; simp at h1; omega
    · subst e; simp at h1; omega
    · have h3 := h2 (by omega) (by omega)
      (repeat' split at h1) <;> (repeat' split at h3) <;> omega
    · rw [if_neg (by omega), if_neg (by omega), if_neg (by omega), if_neg (by omega), if_neg (by omega)] at h1; omega
  · unfold isSg at hk
    rcases hr with e | e | e | e | e
    · subst e; simp at h1; omega
    · subst e; simp at h1; omega
    · subst e; simp at h1; omega
    · (repeat' split at h1) <;> omega
    · have h3 := h2 (by omega) (by omega)
      rw [if_neg (by omega), if_neg (by omega), if_neg (by omega), if_neg (by omega), if_neg (by omega)] at h1
      rw [if_neg (by omega), if_neg (by omega), if_neg (by omega)] at h3
      omega
  · have h3 := h2 (by omega) (by omega); rw [if_pos q] at h3; exact h3
  · have h3 := h2 (by omega) (by omega); rw [if_neg (by omega), if_pos q1] at h3; exact h3
theorem cntO_pop {l : Int} : ∀ s : List Int, cntO (popR l s) + cntO (popS l s) = cntO s
  | [] => rfl
  | x :: s => by
    have := cntO_pop (l := l) s
    unfold popR popS
    split
    · show (if x = -3 ∨ x = -9 then 1 else 0) + cntO (popR l s) + cntO (popS l s) = (if x = -3 ∨ x = -9 then 1 else 0) + cntO s
      omega
    · show (0 : Int) + _ = _
      omega
theorem cntB_nn : ∀ s : List Int, 0 ≤ cntB s
  | [] => Int.le_refl 0
  | x :: s => by have := cntB_nn s; unfold cntB; split <;> omega
theorem cntB_pop {l : Int} (hl : 1 ≤ l) : ∀ s : List Int, cntB (popS l s) = cntB s
  | [] => rfl
  | x :: s => by
    have := cntB_pop hl s
    unfold popS
    split
    · rename_i h
      have e : ¬ x = -10 := fun q => by subst q; simp [m_rank] at h; omega
      show cntB (popS l s) = (if x = -10 then 1 else 0) + cntB s
      rw [if_neg e]; omega
    · rfl
/-- behind settle -/
theorem PB.st {A0 A A' : Nat → Int → Int} {t : Int → Int} {n o l : Int} {S out : List Int} {F : Int → Int} {op q : Int} (h : PB A0 t n o A S out F op q) (hl : 1 ≤ l) (hR : RG A') (hS : SetP l A A') : PB A0 t n o A' (popS l S) ((popR l S).reverse ++ out) F (op - cntO (popR l S)) q := by
  obtain ⟨h1, h2, h3, h4, ⟨h5, h6, h7, h8⟩, h9, h10, h11, h12, h13, h14, h15, h16⟩ := h
  obtain ⟨q1, q2, q3, q4, q5, q6, q7, q8, q9⟩ := hS
  rw [h7] at q2 q3 q8 q9
  rw [h9] at q5 q6 q7
  have r : ∀ c, ¬ c = 0 → ¬ c = 33 → ¬ c = 34 → A' c = A c := fun c c0 c1 c2 => q1.1 c (by simp; omega) c0
  exact ⟨hR, h2.tr (q1.mono (fun c h => by revert h; simp; omega) (fun j h => by revert h; simp; omega)), fun i hi => (q2 i hi).trans (h3 i hi), fun i hi => (q3 i hi).trans (h4 i hi), ⟨by rw [r 1 (by decide) (by decide) (by decide)]; exact h5, by rw [q1.2 1 (by decide)]; exact h6, by rw [q1.2 55 (by decide)]; exact h7, by rw [q1.2 46 (by decide)]; exact h8⟩, q5, by rw [q6, h10], by rw [r 36 (by decide) (by decide) (by decide)]; exact h11, by rw [q7, h12], q4, q8, by omega, by rw [q1.2 53 (by decide), h16, cntB_pop hl]⟩
theorem PB.put {A0 A : Nat → Int → Int} {t : Int → Int} {n o w : Int} {S out : List Int} {F : Int → Int} {op q : Int} (h : PB A0 t n o A S out F op q) (hw : Rg w) (ho : 0 ≤ o ∧ o < 12) (hm : A 33 o + A 0 52 + 1 ≤ q) (hq : q ≤ 160) : PB A0 t n o (m_put A w) S (w :: out) F op q ∧ ((0 ≤ A 0 55 ∧ A 0 55 < 12) ∧ 0 ≤ A 33 (A 0 55) ∧ A 33 (A 0 55) < 160) := by
  obtain ⟨h1, h2, h3, h4, ⟨h5, h6, h7, h8⟩, h9, h10, h11, h12, h13, h14, h15, h16⟩ := h
  have hp : (0 ≤ A 0 55 ∧ A 0 55 < 12) ∧ 0 ≤ A 33 (A 0 55) ∧ A 33 (A 0 55) < 160 := by rw [h7]; omega
  refine ⟨⟨rg_put h1 hw hp, (h2.row (by decide) (by decide)).row (by decide) (by decide), fun i hi => ?_, fun i hi => ?_, ⟨?_, h6, h7, h8⟩, ?_, ?_, ?_, h12, h13, ?_, ?_, h16⟩, hp⟩
  · unfold m_put; rw [UA_j (by rw [h7]; exact hi), UA_c (by decide)]; exact h3 i hi
  · unfold m_put; rw [UA_c (by decide), UA_j (by rw [h7] at hp ⊢; omega)]; exact h4 i hi
  · rw [← h5]; rfl
  · rw [← h9]; rfl
  · rw [puts_put hp, h10]
  · rw [← h11]; rfl
  · have e : m_put A w 33 o = A 33 o + 1 := by unfold m_put; rw [h7, UA_eq]
    rw [e]; omega
  · have e : m_put A w 33 o = A 33 o + 1 := by unfold m_put; rw [h7, UA_eq]
    have e2 : m_put A w 0 52 = A 0 52 := rfl
    rw [e, e2]; omega
theorem PB.hold {A0 A : Nat → Int → Int} {t : Int → Int} {n o w : Int} {S out : List Int} {F : Int → Int} {op q : Int} (h : PB A0 t n o A S out F op q) (hw : Rg w) (hw2 : ¬ w = -10) (hop : 0 ≤ op ∧ op ≤ 5) (hm : A 33 o + A 0 52 + 1 ≤ q) (hq : q ≤ 160) : PB A0 t n o (m_hold A w) (w :: S) out F (op + if w = -3 ∨ w = -9 then 1 else 0) q := by
  obtain ⟨h1, h2, h3, h4, ⟨h5, h6, h7, h8⟩, h9, h10, h11, h12, h13, h14, h15, h16⟩ := h
  have e52 : m_hold A w 0 52 = A 0 52 + 1 := by unfold m_hold; split <;> simp [UA]
  have e54 : m_hold A w 0 54 = A 0 54 + if w = -3 ∨ w = -9 then 1 else 0 := by
    unfold m_hold
    by_cases c : w = -3 ∨ w = -9
    · rw [if_pos (by omega), if_pos c]; rfl
    · rw [if_neg (by omega), if_neg c]; show A 0 54 = _; omega
  have er : ∀ c, ¬ c = 35 → ¬ c = 0 → m_hold A w c = A c := fun c c1 c2 => by funext i; unfold m_hold; split <;> simp [UA, c1, c2]
  have ef : ∀ j : Int, ¬ j = 52 → ¬ j = 54 → m_hold A w 0 j = A 0 j := fun j c1 c2 => by unfold m_hold; split <;> simp [UA, c1, c2]
  have hF : Fr [33, 34, 35, 36] [46, 47, 48, 49, 52, 53, 54] A (m_hold A w) := ⟨fun c c1 c2 => er c (by simp at c1; omega) c2, fun j c1 => ef j (by simp at c1; omega) (by simp at c1; omega)⟩
  refine ⟨rg_hold h1 hw ⟨by omega, by omega⟩, h2.tr hF, fun i hi => by rw [er 33 (by decide) (by decide)]; exact h3 i hi, fun i hi => by rw [er 34 (by decide) (by decide)]; exact h4 i hi, ⟨by rw [er 1 (by decide) (by decide)]; exact h5, by rw [ef 1 (by decide) (by decide)]; exact h6, by rw [ef 55 (by decide) (by decide)]; exact h7, by rw [ef 46 (by decide) (by decide)]; exact h8⟩, by rw [wts_hold h13, h9], ?_, by rw [er 36 (by decide) (by decide)]; exact h11, by rw [e54, h12], by rw [e52]; omega, by rw [er 33 (by decide) (by decide)]; exact h14, by rw [er 33 (by decide) (by decide), e52]; omega, ?_⟩
  · rw [← h10]; exact puts_c (er 34 (by decide) (by decide)) (er 33 (by decide) (by decide)) (ef 55 (by decide) (by decide))
  · rw [ef 53 (by decide) (by decide), h16]
    show _ = (if w = -10 then 1 else 0) + cntB S
    rw [if_neg hw2]; omega
theorem ahead_iff {A0 A : Nat → Int → Int} {t : Int → Int} {n o : Int} {S out : List Int} {F : Int → Int} {op p x2 : Int} (h : PS A0 t n o A S out F op p) : m_ahead A x2 ↔ (tkC t n p = 400 ∨ (205 ≤ tkC t n p ∧ tkC t n p ≤ 210) ∨ (¬ op = 5 ∧ ((tkC t n p = 204 ∧ ¬ x2 = 0) ∨ tkC t n p = 40 ∨ tkC t n p = 45))) := by
  obtain ⟨t1, t2, t3, t4, -, -⟩ := h.2.1.tok
  have k4 := t3 4 (by decide) (by decide)
  have s40 := t4 40 (by decide)
  have s45 := t4 45 (by decide)
  have e54 : A 0 54 = op := h.1.2.2.2.2.2.2.2.2.1
  have k4' : (A 0 47 = 3 ∧ A 0 48 = 4 ∧ ¬ x2 = 0) ↔ (tkC t n p = 204 ∧ ¬ x2 = 0) := by rw [← and_assoc, k4]; rfl
  have s4' : (A 0 47 = 4 ∧ (A 0 48 = 40 ∨ A 0 48 = 45)) ↔ (tkC t n p = 40 ∨ tkC t n p = 45) := by rw [← s40, ← s45]; constructor
                                                                                                  · rintro ⟨a, b | b⟩
                                                                                                    · exact Or.inl ⟨a, b⟩
                                                                                                    · exact Or.inr ⟨a, b⟩
                                                                                                  · rintro (⟨a, b⟩ | ⟨a, b⟩)
                                                                                                    · exact ⟨a, Or.inl b⟩
                                                                                                    · exact ⟨a, Or.inr b⟩
  unfold m_ahead
  rw [t1, t2, k4', s4', e54]
theorem pT0 {d : Nat} (hd : 3 ≤ d) {Q : Option Value → xM → Prop} {m : Nat} {Φ : (Nat → Nat → Int32) → xM} (hΦ : MLaw m Φ) {A0 A : Nat → Int → Int} {t : Int → Int} {n o : Int} {S out : List Int} {F : Int → Int} {op p x2 : Int} (h : PS A0 t n o A S out F op p) (h2 : x2 = 0 ∨ x2 = 1)
    (hno : ¬ (tkC t n p = 400 ∨ (205 ≤ tkC t n p ∧ tkC t n p ≤ 210) ∨ (¬ op = 5 ∧ ((tkC t n p = 204 ∧ ¬ x2 = 0) ∨ tkC t n p = 40 ∨ tkC t n p = 45)))) (hQ : Q (some (.int (iz 0))) (Φ (mI A))) : wpE (xT 178) (xev xT d) Q (36, [(0, .ref m), (1, .int (iz 1)), (2, .int (iz x2))], [], Φ (mI A)) := by
  have rr : Rg (1 : Int) ∧ Rg x2 := ⟨by decide, by rcases h2 with e | e <;> subst e <;> decide⟩
  exact V178_36 hd hΦ h.1.1 rr ⟨fun q => absurd q (by decide), fun _ => ⟨h2, fun _ => hQ, fun q => absurd ((ahead_iff h).mp q) hno⟩⟩
theorem tok_num {A : Nat → Int → Int} {t : Int → Int} {n p : Int} (h : Cur A t n p) (hw : tkC t n p = 400 ∨ (205 ≤ tkC t n p ∧ tkC t n p ≤ 210)) : ¬ (A 0 47 = 3 ∧ A 0 48 = 4) ∧ ¬ (A 0 47 = 4 ∧ A 0 48 = 45) ∧ ¬ (A 0 47 = 4 ∧ A 0 48 = 40) ∧ (A 0 47 = 1 → tkC t n p = 400 ∧ A 0 48 = tkV t n p) ∧ (¬ A 0 47 = 1 → 205 ≤ tkC t n p ∧ tkC t n p ≤ 210 ∧ A 0 48 = tkC t n p - 205) := by
  obtain ⟨t1, t2, t3, t4, t5, t6⟩ := h.tok
  have k4 := t3 4 (by decide) (by decide)
  have s40 := t4 40 (by decide)
  have s45 := t4 45 (by decide)
  clear t3 t4
  refine ⟨fun q => ?_, fun q => ?_, fun q => ?_, fun q => ⟨t1.mp q, t5 (t1.mp q)⟩, fun q => ?_⟩
  · have := k4.mp q; clear t1 t2 k4 s40 s45 q; omega
  · have := s45.mp q; clear t1 t2 k4 s40 s45 q; omega
  · have := s40.mp q; clear t1 t2 k4 s40 s45 q; omega
  · have e : ¬ tkC t n p = 400 := fun e => q (t1.mpr e)
    have e2 : 205 ≤ tkC t n p ∧ tkC t n p ≤ 210 := by rcases hw with z | z; exact absurd z e; exact z
    exact ⟨e2.1, e2.2, t6 e2.1 e2.2⟩
theorem pPut {d : Nat} {Q : Option Value → xM → Prop} {m : Nat} {Φ : (Nat → Nat → Int32) → xM} {A0 A : Nat → Int → Int} {t : Int → Int} {n o : Int} {S out : List Int} {F : Int → Int} {op p x2 w : Int} (hT : TapeB t) (hn : n ≤ 160) (ho : 0 ≤ o ∧ o < 12) (h : PS A0 t n o A S out F op p) (hlt : tkB t n p < n) (hop : cntO S ≤ op ∧ op ≤ 5) (hv : Rg w)
    (hQ : ∀ A2, PS A0 t n o A2 (popS 7 S) ((popR 7 S).reverse ++ w :: out) F (op - cntO (popR 7 S)) (tkE t n p) → wpE (xT 178) (xev xT d) Q (36, [(0, .ref m), (1, .int (iz 0)), (2, .int (iz x2))], [], Φ (mI A2))) :
    (0 ≤ A 0 55 ∧ A 0 55 < 12) ∧ (0 ≤ A 33 (A 0 55) ∧ A 33 (A 0 55) < 160) ∧ (1 ≤ (7 : Int) ∧ (7 : Int) ≤ 7) ∧ (0 ≤ (m_put A w) 0 52 ∧ (m_put A w) 0 52 ≤ 161) ∧ (0 ≤ (m_put A w) 0 55 ∧ (m_put A w) 0 55 < 12) ∧ (0 ≤ (m_put A w) 33 ((m_put A w) 0 55) ∧ (m_put A w) 33 ((m_put A w) 0 55) + (m_put A w) 0 52 ≤ 160) ∧ (cntO (popR (7 : Int) (wts (m_put A w))) ≤ (m_put A w) 0 54 ∧ (m_put A w) 0 54 ≤ 5) ∧ (∀ (A_1 : Nat → Int → Int), RG A_1 → (SetP 7 (m_put A w) A_1) → (TapeB (A_1 1)) ∧ (0 ≤ A_1 0 46) ∧ (A_1 0 46 ≤ A_1 0 1) ∧ (A_1 0 1 ≤ 160) ∧ (∀ (A_2 : Nat → Int → Int), RG A_2 → (Fr [] [46, 47, 48, 49] A_1 A_2 ∧ Cur A_2 (A_1 1) (A_1 0 1) (A_1 0 46)) → wpE (xT 178) (xev xT d) Q (36, [(0, .ref m), (1, .int (iz 0)), (2, .int (iz x2))], [], Φ (mI A_2)))) := by
  obtain ⟨hB, -, h15, hp⟩ := h
  have te := tkE_b (t := t) (n := n) (p := p) hp.2
  have hPP := hB.put hv ho (by omega) (by omega)
  have hP := hPP.1
  have hpop := cntO_pop (l := 7) S
  have hnn := cntO_nn (popS 7 S)
  have hP' := hP
  obtain ⟨-, -, -, -, ⟨-, -, u7, -⟩, u9, -, -, u12, u13, u14, u16, -⟩ := hP'
  refine ⟨hPP.2.1, hPP.2.2, by decide, by omega, by omega, by rw [u7]; omega, by rw [u9, u12]; omega, fun A1 hR1 hS1 => ?_⟩
  have hP1 := hP.st (by decide) hR1 hS1
  have hP1' := hP1
  obtain ⟨-, -, -, -, ⟨w5, w6, w7, w8⟩, -⟩ := hP1'
  exact ⟨by rw [w5]; exact hT, by omega, by omega, by omega, fun A2 hR2 hp2 => hQ A2 (hP1.nx (by omega) hR2 hp2.1 hp2.2)⟩
theorem pT1 {d : Nat} (hd : 3 ≤ d) {Q : Option Value → xM → Prop} {m : Nat} {Φ : (Nat → Nat → Int32) → xM} (hΦ : MLaw m Φ) {A0 A : Nat → Int → Int} {t : Int → Int} {n o : Int} {S out : List Int} {F : Int → Int} {op p x2 w : Int} (hT : TapeB t) (hn : n ≤ 160) (ho : 0 ≤ o ∧ o < 12) (h : PS A0 t n o A S out F op p) (h2 : x2 = 0 ∨ x2 = 1) (hop : cntO S ≤ op ∧ op ≤ 5)
    (hw : (tkC t n p = 400 ∧ w = tkV t n p) ∨ (205 ≤ tkC t n p ∧ tkC t n p ≤ 210 ∧ w = 10000 + (tkC t n p - 205)))
    (hQ : ∀ A2, PS A0 t n o A2 (popS 7 S) ((popR 7 S).reverse ++ w :: out) F (op - cntO (popR 7 S)) (tkE t n p) → wpE (xT 178) (xev xT d) Q (36, [(0, .ref m), (1, .int (iz 0)), (2, .int (iz x2))], [], Φ (mI A2))) : wpE (xT 178) (xev xT d) Q (36, [(0, .ref m), (1, .int (iz 1)), (2, .int (iz x2))], [], Φ (mI A)) := by
  have rr : Rg (1 : Int) ∧ Rg x2 := ⟨by decide, by rcases h2 with e | e <;> subst e <;> decide⟩
  have hc : tkC t n p = 400 ∨ (205 ≤ tkC t n p ∧ tkC t n p ≤ 210) := by rcases hw with z | z; exact Or.inl z.1; exact Or.inr ⟨z.1, z.2.1⟩
  have hah : m_ahead A x2 := (ahead_iff h).mpr (by rcases hc with z | z; exact Or.inl z; exact Or.inr (Or.inl z))
  have hlt := tkC_lt (t := t) (n := n) (p := p) (by clear hQ hah; omega)
  obtain ⟨n1, n2, n3, n4, n5⟩ := tok_num h.2.1 hc
  have hr48 := h.1.1 0 48
  have g1 : A 0 47 = 1 → A 0 48 = w := fun q => by
    obtain ⟨z1, z2⟩ := n4 q
    rcases hw with z | z
    · rw [z2, z.2]
    · exact absurd z1 (by clear hQ hah n1 n2 n3 n4 n5; omega)
  have g2 : ¬ A 0 47 = 1 → 10000 + A 0 48 = w ∧ Rg (10000 + A 0 48) := fun q => by
    obtain ⟨z1, z2, z3⟩ := n5 q
    rcases hw with z | z
    · exact absurd z.1 (by clear hQ hah n1 n2 n3 n4 n5; omega)
    · exact ⟨by rw [z3, z.2.2], by rw [z3]; clear hQ hah n1 n2 n3 n4 n5; omega⟩
  refine V178_36 hd hΦ h.1.1 rr ⟨fun q => absurd q (by decide), fun _ => ⟨h2, fun q => absurd hah q, fun _ => ⟨fun _ => ⟨fun _ => ⟨fun _ => ⟨fun q => ?_, fun q => ⟨(g2 q).2, ?_⟩⟩, fun q => absurd q n3⟩, fun q => absurd q n2⟩, fun q => absurd q n1⟩⟩⟩
  · have := pPut (m := m) (Φ := Φ) (x2 := x2) (d := d) (Q := Q) (w := A 0 48) hT hn ho h hlt hop hr48 (by rw [g1 q]; exact hQ)
    exact this
  · have := pPut (m := m) (Φ := Φ) (x2 := x2) (d := d) (Q := Q) (w := 10000 + A 0 48) hT hn ho h hlt hop (g2 q).2 (by rw [(g2 q).1]; exact hQ)
    exact this
