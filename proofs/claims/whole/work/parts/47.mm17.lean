theorem dv_b4 {t : Int → Int} {p : Int} : ∀ m : Nat, m ≤ 4 → (∀ i : Nat, i < m → 48 ≤ t (p + i) ∧ t (p + i) ≤ 57) → 0 ≤ dv t p m ∧ (m ≤ 3 → dv t p m ≤ 999) ∧ dv t p m ≤ 9999
  | 0, _, _ => by simp [dv]
  | m + 1, hm, h => by
    have h1 := dv_b m (by omega) (fun i hi => h i (by omega))
    have h2 := h m (by omega)
    have e : dv t p (m + 1) = 10 * dv t p m + t (p + m) - 48 := rfl
    omega
/-- the token that is read from p on stands in the model's fields -/
def Cur (A : Nat → Int → Int) (t : Int → Int) (n p : Int) : Prop := A 0 49 = tkB t n p ∧ A 0 46 = tkE t n p ∧ A 0 47 = mTok (tkC t n p) ∧ (¬ tkC t n p = 401 → ¬ tkC t n p = 402 → A 0 48 = mVal (tkC t n p) (tkV t n p))
theorem tkE_b {t : Int → Int} {n p : Int} (h : p ≤ n) : tkB t n p ≤ tkE t n p ∧ tkE t n p ≤ n ∧ p ≤ tkB t n p ∧ tkB t n p ≤ n ∧ (tkB t n p < n → tkB t n p < tkE t n p) := by
  have h1 := skf_b (P := isBl) (t := t) h
  have e : tkB t n p = skf isBl t n p := rfl
  have h2 := skf_b (P := isLe) (t := t) (n := n) (p := tkB t n p) (by omega)
  have h3 := skf_b (P := isDi) (t := t) (n := n) (p := tkB t n p) (by omega)
  have h4 : tkB t n p < n → isLe (t (tkB t n p)) = true → tkB t n p + 1 ≤ skf isLe t n (tkB t n p) := fun q1 q2 => by
    rw [skf_s q1, if_pos q2]; exact (skf_b (by omega)).1
  have h5 : tkB t n p < n → isDi (t (tkB t n p)) = true → tkB t n p + 1 ≤ skf isDi t n (tkB t n p) := fun q1 q2 => by
    rw [skf_s q1, if_pos q2]; exact (skf_b (by omega)).1
  unfold tkE
  split
  · omega
  · rename_i c1
    split
    · rename_i c2
      have := h4 (by omega) c2
      omega
    · rename_i c2
      split
      · rename_i c3
        have := h5 (by omega) c3
        omega
      · omega
theorem V172_0 {d : Nat} (hd : 2 ≤ d) {Q : Option Value → xM → Prop} {m : Nat} {Φ : (Nat → Nat → Int32) → xM} (hΦ : MLaw m Φ) {A : Nat → Int → Int} (hR : RG A) (h : ((((A 0 1) ≤ (A 0 46)) → ((((A 0 46) = (A 0 1)) → Q none (Φ (mI (UA (UA A 0 49 (A 0 46)) 0 47 0)))) ∧ (¬ ((A 0 46) = (A 0 1)) → (0 ≤ (A 0 46) ∧ (A 0 46) < 160) ∧ ((¬ (97 ≤ (A 1 (A 0 46)) ∧ (A 1 (A 0 46)) ≤ 122) → ((¬ (48 ≤ (A 1 (A 0 46)) ∧ (A 1 (A 0 46)) ≤ 57) → (Rg ((A 0 46) + 1)) ∧ ((((A 1 (A 0 46)) = 40) → Q none (Φ (mI (UA (UA (UA (UA (UA A 0 49 (A 0 46)) 0 47 0) 0 46 ((A 0 46) + 1)) 0 48 (A 1 (A 0 46))) 0 47 4)))) ∧ (¬ ((A 1 (A 0 46)) = 40) → ((((A 1 (A 0 46)) = 41) → Q none (Φ (mI (UA (UA (UA (UA (UA A 0 49 (A 0 46)) 0 47 0) 0 46 ((A 0 46) + 1)) 0 48 (A 1 (A 0 46))) 0 47 4)))) ∧ (¬ ((A 1 (A 0 46)) = 41) → ((((A 1 (A 0 46)) = 59) → Q none (Φ (mI (UA (UA (UA (UA (UA A 0 49 (A 0 46)) 0 47 0) 0 46 ((A 0 46) + 1)) 0 48 (A 1 (A 0 46))) 0 47 4)))) ∧ (¬ ((A 1 (A 0 46)) = 59) → ((((A 1 (A 0 46)) = 43) → Q none (Φ (mI (UA (UA (UA (UA (UA A 0 49 (A 0 46)) 0 47 0) 0 46 ((A 0 46) + 1)) 0 48 (A 1 (A 0 46))) 0 47 4)))) ∧ (¬ ((A 1 (A 0 46)) = 43) → ((((A 1 (A 0 46)) = 45) → Q none (Φ (mI (UA (UA (UA (UA (UA A 0 49 (A 0 46)) 0 47 0) 0 46 ((A 0 46) + 1)) 0 48 (A 1 (A 0 46))) 0 47 4)))) ∧ (¬ ((A 1 (A 0 46)) = 45) → ((((A 1 (A 0 46)) = 42) → Q none (Φ (mI (UA (UA (UA (UA (UA A 0 49 (A 0 46)) 0 47 0) 0 46 ((A 0 46) + 1)) 0 48 (A 1 (A 0 46))) 0 47 4)))) ∧ (¬ ((A 1 (A 0 46)) = 42) → ((((A 1 (A 0 46)) = 60) → Q none (Φ (mI (UA (UA (UA (UA (UA A 0 49 (A 0 46)) 0 47 0) 0 46 ((A 0 46) + 1)) 0 48 (A 1 (A 0 46))) 0 47 4)))) ∧ (¬ ((A 1 (A 0 46)) = 60) → ((((A 1 (A 0 46)) = 61) → Q none (Φ (mI (UA (UA (UA (UA (UA A 0 49 (A 0 46)) 0 47 0) 0 46 ((A 0 46) + 1)) 0 48 (A 1 (A 0 46))) 0 47 4)))) ∧ (¬ ((A 1 (A 0 46)) = 61) → Q none (Φ (mI (UA (UA (UA (UA (UA A 0 49 (A 0 46)) 0 47 0) 0 46 ((A 0 46) + 1)) 0 48 (A 1 (A 0 46))) 0 47 5)))))))))))))))))))) ∧ ((48 ≤ (A 1 (A 0 46)) ∧ (A 1 (A 0 46)) ≤ 57) → wpE (xT 172) (xev xT d) Q (113, [(0, .ref m)], [], Φ (mI (UA (UA (UA A 0 49 (A 0 46)) 0 47 0) 0 48 0)))))) ∧ ((97 ≤ (A 1 (A 0 46)) ∧ (A 1 (A 0 46)) ≤ 122) → (TapeB ((UA (UA A 0 49 (A 0 46)) 0 47 0) 1)) ∧ (0 ≤ (A 0 46)) ∧ ((A 0 46) ≤ (A 0 46)) ∧ ((A 0 46) ≤ (A 0 1)) ∧ ((A 0 1) ≤ 160) ∧ (∀ (A_1 : Nat → Int → Int), RG A_1 → (Fr [] [46, 47, 48] (UA (UA A 0 49 (A 0 46)) 0 47 0) A_1 ∧ A_1 0 46 = skf isLe ((UA (UA A 0 49 (A 0 46)) 0 47 0) 1) ((UA (UA A 0 49 (A 0 46)) 0 47 0) 0 1) ((UA (UA A 0 49 (A 0 46)) 0 47 0) 0 46) ∧ (wkT ((UA (UA A 0 49 (A 0 46)) 0 47 0) 1) ((UA (UA A 0 49 (A 0 46)) 0 47 0) 0 49) (A_1 0 46) = -1 → A_1 0 47 = 5) ∧ (5 ≤ wkT ((UA (UA A 0 49 (A 0 46)) 0 47 0) 1) ((UA (UA A 0 49 (A 0 46)) 0 47 0) 0 49) (A_1 0 46) → A_1 0 47 = 2 ∧ A_1 0 48 = wkT ((UA (UA A 0 49 (A 0 46)) 0 47 0) 1) ((UA (UA A 0 49 (A 0 46)) 0 47 0) 0 49) (A_1 0 46) - 5) ∧ (0 ≤ wkT ((UA (UA A 0 49 (A 0 46)) 0 47 0) 1) ((UA (UA A 0 49 (A 0 46)) 0 47 0) 0 49) (A_1 0 46) → wkT ((UA (UA A 0 49 (A 0 46)) 0 47 0) 1) ((UA (UA A 0 49 (A 0 46)) 0 47 0) 0 49) (A_1 0 46) ≤ 4 → A_1 0 47 = 3 ∧ A_1 0 48 = wkT ((UA (UA A 0 49 (A 0 46)) 0 47 0) 1) ((UA (UA A 0 49 (A 0 46)) 0 47 0) 0 49) (A_1 0 46))) → Q none (Φ (mI A_1)))))))) ∧ (¬ ((A 0 1) ≤ (A 0 46)) → (0 ≤ (A 0 46) ∧ (A 0 46) < 160) ∧ ((((A 1 (A 0 46)) = 32) → (Rg ((A 0 46) + 1)) ∧ wpE (xT 172) (xev xT d) Q (0, [(0, .ref m)], [], Φ (mI (UA A 0 46 ((A 0 46) + 1))))) ∧ (¬ ((A 1 (A 0 46)) = 32) → ((((A 1 (A 0 46)) = 10) → (Rg ((A 0 46) + 1)) ∧ wpE (xT 172) (xev xT d) Q (0, [(0, .ref m)], [], Φ (mI (UA A 0 46 ((A 0 46) + 1))))) ∧ (¬ ((A 1 (A 0 46)) = 10) → ((((A 0 46) = (A 0 1)) → Q none (Φ (mI (UA (UA A 0 49 (A 0 46)) 0 47 0)))) ∧ (¬ ((A 0 46) = (A 0 1)) → ((¬ (97 ≤ (A 1 (A 0 46)) ∧ (A 1 (A 0 46)) ≤ 122) → ((¬ (48 ≤ (A 1 (A 0 46)) ∧ (A 1 (A 0 46)) ≤ 57) → (Rg ((A 0 46) + 1)) ∧ ((((A 1 (A 0 46)) = 40) → Q none (Φ (mI (UA (UA (UA (UA (UA A 0 49 (A 0 46)) 0 47 0) 0 46 ((A 0 46) + 1)) 0 48 (A 1 (A 0 46))) 0 47 4)))) ∧ (¬ ((A 1 (A 0 46)) = 40) → ((((A 1 (A 0 46)) = 41) → Q none (Φ (mI (UA (UA (UA (UA (UA A 0 49 (A 0 46)) 0 47 0) 0 46 ((A 0 46) + 1)) 0 48 (A 1 (A 0 46))) 0 47 4)))) ∧ (¬ ((A 1 (A 0 46)) = 41) → ((((A 1 (A 0 46)) = 59) → Q none (Φ (mI (UA (UA (UA (UA (UA A 0 49 (A 0 46)) 0 47 0) 0 46 ((A 0 46) + 1)) 0 48 (A 1 (A 0 46))) 0 47 4)))) ∧ (¬ ((A 1 (A 0 46)) = 59) → ((((A 1 (A 0 46)) = 43) → Q none (Φ (mI (UA (UA (UA (UA (UA A 0 49 (A 0 46)) 0 47 0) 0 46 ((A 0 46) + 1)) 0 48 (A 1 (A 0 46))) 0 47 4)))) ∧ (¬ ((A 1 (A 0 46)) = 43) → ((((A 1 (A 0 46)) = 45) → Q none (Φ (mI (UA (UA (UA (UA (UA A 0 49 (A 0 46)) 0 47 0) 0 46 ((A 0 46) + 1)) 0 48 (A 1 (A 0 46))) 0 47 4)))) ∧ (¬ ((A 1 (A 0 46)) = 45) → ((((A 1 (A 0 46)) = 42) → Q none (Φ (mI (UA (UA (UA (UA (UA A 0 49 (A 0 46)) 0 47 0) 0 46 ((A 0 46) + 1)) 0 48 (A 1 (A 0 46))) 0 47 4)))) ∧ (¬ ((A 1 (A 0 46)) = 42) → ((((A 1 (A 0 46)) = 60) → Q none (Φ (mI (UA (UA (UA (UA (UA A 0 49 (A 0 46)) 0 47 0) 0 46 ((A 0 46) + 1)) 0 48 (A 1 (A 0 46))) 0 47 4)))) ∧ (¬ ((A 1 (A 0 46)) = 60) → ((((A 1 (A 0 46)) = 61) → Q none (Φ (mI (UA (UA (UA (UA (UA A 0 49 (A 0 46)) 0 47 0) 0 46 ((A 0 46) + 1)) 0 48 (A 1 (A 0 46))) 0 47 4)))) ∧ (¬ ((A 1 (A 0 46)) = 61) → Q none (Φ (mI (UA (UA (UA (UA (UA A 0 49 (A 0 46)) 0 47 0) 0 46 ((A 0 46) + 1)) 0 48 (A 1 (A 0 46))) 0 47 5)))))))))))))))))))) ∧ ((48 ≤ (A 1 (A 0 46)) ∧ (A 1 (A 0 46)) ≤ 57) → wpE (xT 172) (xev xT d) Q (113, [(0, .ref m)], [], Φ (mI (UA (UA (UA A 0 49 (A 0 46)) 0 47 0) 0 48 0)))))) ∧ ((97 ≤ (A 1 (A 0 46)) ∧ (A 1 (A 0 46)) ≤ 122) → (TapeB ((UA (UA A 0 49 (A 0 46)) 0 47 0) 1)) ∧ (0 ≤ (A 0 46)) ∧ ((A 0 46) ≤ (A 0 46)) ∧ ((A 0 46) ≤ (A 0 1)) ∧ ((A 0 1) ≤ 160) ∧ (∀ (A_1 : Nat → Int → Int), RG A_1 → (Fr [] [46, 47, 48] (UA (UA A 0 49 (A 0 46)) 0 47 0) A_1 ∧ A_1 0 46 = skf isLe ((UA (UA A 0 49 (A 0 46)) 0 47 0) 1) ((UA (UA A 0 49 (A 0 46)) 0 47 0) 0 1) ((UA (UA A 0 49 (A 0 46)) 0 47 0) 0 46) ∧ (wkT ((UA (UA A 0 49 (A 0 46)) 0 47 0) 1) ((UA (UA A 0 49 (A 0 46)) 0 47 0) 0 49) (A_1 0 46) = -1 → A_1 0 47 = 5) ∧ (5 ≤ wkT ((UA (UA A 0 49 (A 0 46)) 0 47 0) 1) ((UA (UA A 0 49 (A 0 46)) 0 47 0) 0 49) (A_1 0 46) → A_1 0 47 = 2 ∧ A_1 0 48 = wkT ((UA (UA A 0 49 (A 0 46)) 0 47 0) 1) ((UA (UA A 0 49 (A 0 46)) 0 47 0) 0 49) (A_1 0 46) - 5) ∧ (0 ≤ wkT ((UA (UA A 0 49 (A 0 46)) 0 47 0) 1) ((UA (UA A 0 49 (A 0 46)) 0 47 0) 0 49) (A_1 0 46) → wkT ((UA (UA A 0 49 (A 0 46)) 0 47 0) 1) ((UA (UA A 0 49 (A 0 46)) 0 47 0) 0 49) (A_1 0 46) ≤ 4 → A_1 0 47 = 3 ∧ A_1 0 48 = wkT ((UA (UA A 0 49 (A 0 46)) 0 47 0) 1) ((UA (UA A 0 49 (A 0 46)) 0 47 0) 0 49) (A_1 0 46))) → Q none (Φ (mI A_1)))))))))))))) : wpE (xT 172) (xev xT d) Q (0, [(0, .ref m)], [], Φ (mI A)) := by
  refine p_ald (cct c172_0 rfl) rfl ?_
  refine n_geti hΦ (v := A 0 46) (cc3 c172_1) (ji := 46) rfl rfl ?_
  refine p_ald (cc3 c172_4) rfl ?_
  refine n_geti hΦ (v := A 0 1) (cc3 c172_5) (ji := 1) rfl rfl ?_
  refine i_icmp (c' := (A 0 1) ≤ (A 0 46)) (cc3 c172_8) (iz_le (hR 0 1) (hR 0 46)) (fun c => ?_) (fun c => ?_)
  · have h := h.1 c
    refine p_ald (cct c172_52 rfl) rfl ?_
    refine p_ald (cc3 c172_53) rfl ?_
    refine n_geti hΦ (v := A 0 46) (cc3 c172_54) (ji := 46) rfl rfl ?_
    refine (fun _ : Rg (A 0 46) => n_puti hΦ (cc3 c172_57) (ji := 49) rfl ?_) (hR 0 46)
    refine p_ald (cc3 c172_60) rfl ?_
    refine i_push (n := 0) (cc3 c172_61) zl_0 ?_
    refine (fun _ : Rg 0 => n_puti hΦ (cc3 c172_62) (ji := 47) rfl ?_) (by decide)
    refine p_ald (cc3 c172_65) rfl ?_
    refine n_geti hΦ (v := A 0 46) (cc3 c172_66) (ji := 46) rfl rfl ?_
    refine p_ald (cc3 c172_69) rfl ?_
    refine n_geti hΦ (v := A 0 1) (cc3 c172_70) (ji := 1) rfl rfl ?_
    refine i_icmp (c' := (A 0 46) = (A 0 1)) (cc3 c172_73) (iz_inj (hR 0 46) (hR 0 1)) (fun c => ?_) (fun c => ?_)
    · have h := h.1 c
      exact p_rv (cc3 c172_76) h
    · have h := h.2 c
      refine p_ald (cc3 c172_77) rfl ?_
      refine pm_getp hΦ (cc3 c172_78) (c := 1) rfl (by decide) ?_
      refine p_ald (cc3 c172_81) rfl ?_
      refine n_geti hΦ (v := A 0 46) (cc3 c172_82) (ji := 46) rfl rfl ?_
      obtain ⟨g1, h⟩ := h
      refine n_aldi hΦ (c := 1) (n := 160) (ni := 160) (cc3 c172_85) (by decide) rfl rfl rfl (by decide) g1 (v := A 1 (A 0 46)) (by first | rfl | exact UA_eq | simp [UA]) ?_
      refine p_ist (ls' := [(1, .int (iz (A 1 (A 0 46)))), (0, .ref m)]) (cc3 c172_86) (by decide) rfl ?_
      refine p_ald (cc3 c172_87) rfl ?_
      refine p_ild (cc3 c172_88) rfl ?_
      refine p_callV (cc3 c172_89) (Nat.le_of_ble_eq_true rfl) rfl rfl (Nat.le_of_ble_eq_true rfl) (ml_kd hΦ) (S173 (Nat.le_trans (by decide) hd) hΦ (rg_UA (rg_UA hR (hR 0 46)) (by decide)) (hR 1 (A 0 46))) ?_
      refine i_ifB (cc3 c172_92) (fun c => ?_) (fun c => ?_)
      · have h := h.1 c
        refine p_ald (cc3 c172_100) rfl ?_
        refine p_ild (cc3 c172_101) rfl ?_
        refine p_callV (cc3 c172_102) (Nat.le_of_ble_eq_true rfl) rfl rfl (Nat.le_of_ble_eq_true rfl) (ml_kd hΦ) (S176 (Nat.le_trans (by decide) hd) hΦ (rg_UA (rg_UA hR (hR 0 46)) (by decide)) (hR 1 (A 0 46))) ?_
        refine i_ifB (cc3 c172_105) (fun c => ?_) (fun c => ?_)
        · have h := h.1 c
          refine p_ald (cc3 c172_220) rfl ?_
          refine p_dup (cc3 c172_221) rfl ?_
          refine n_geti hΦ (v := A 0 46) (cc3 c172_222) (ji := 46) rfl rfl ?_
          refine i_push (n := 1) (cc3 c172_225) zl_1 ?_
          obtain ⟨g2, h⟩ := h
          refine (fun _ : Rg ((A 0 46) + 1) => i_add (cc3 c172_226) ?_) g2
          refine (fun _ : Rg ((A 0 46) + 1) => n_puti hΦ (cc3 c172_227) (ji := 46) rfl ?_) g2
          refine p_ald (cc3 c172_230) rfl ?_
          refine p_ild (cc3 c172_231) rfl ?_
          refine (fun _ : Rg (A 1 (A 0 46)) => n_puti hΦ (cc3 c172_232) (ji := 48) rfl ?_) (hR 1 (A 0 46))
          refine p_ald (cc3 c172_235) rfl ?_
          refine p_ild (cc3 c172_236) rfl ?_
          refine i_push (n := 40) (cc3 c172_237) zl_40 ?_
          refine i_icmp (c' := (A 1 (A 0 46)) = 40) (cc3 c172_239) (iz_inj (hR 1 (A 0 46)) (by decide)) (fun c => ?_) (fun c => ?_)
          · have h := h.1 c
            refine p_lc (ls' := []) c172_284 rfl rfl ?_
            refine i_push (n := 4) (cct c172_284 rfl) zl_4 ?_
            refine p_goto (cc3 c172_285) ?_
            refine (fun _ : Rg 4 => n_puti hΦ (cct c172_289 rfl) (ji := 47) rfl ?_) (by decide)
            exact p_rv (cc3 c172_292) h
          · have h := h.2 c
            refine p_ild (cc3 c172_242) rfl ?_
            refine i_push (n := 41) (cc3 c172_243) zl_41 ?_
            refine i_icmp (c' := (A 1 (A 0 46)) = 41) (cc3 c172_245) (iz_inj (hR 1 (A 0 46)) (by decide)) (fun c => ?_) (fun c => ?_)
            · have h := h.1 c
              refine p_lc (ls' := []) c172_284 rfl rfl ?_
              refine i_push (n := 4) (cct c172_284 rfl) zl_4 ?_
              refine p_goto (cc3 c172_285) ?_
              refine (fun _ : Rg 4 => n_puti hΦ (cct c172_289 rfl) (ji := 47) rfl ?_) (by decide)
              exact p_rv (cc3 c172_292) h
            · have h := h.2 c
              refine p_ild (cc3 c172_248) rfl ?_
              refine i_push (n := 59) (cc3 c172_249) zl_59 ?_
              refine i_icmp (c' := (A 1 (A 0 46)) = 59) (cc3 c172_251) (iz_inj (hR 1 (A 0 46)) (by decide)) (fun c => ?_) (fun c => ?_)
              · have h := h.1 c
                refine p_lc (ls' := []) c172_284 rfl rfl ?_
                refine i_push (n := 4) (cct c172_284 rfl) zl_4 ?_
                refine p_goto (cc3 c172_285) ?_
                refine (fun _ : Rg 4 => n_puti hΦ (cct c172_289 rfl) (ji := 47) rfl ?_) (by decide)
                exact p_rv (cc3 c172_292) h
              · have h := h.2 c
                refine p_ild (cc3 c172_254) rfl ?_
                refine i_push (n := 43) (cc3 c172_255) zl_43 ?_
                refine i_icmp (c' := (A 1 (A 0 46)) = 43) (cc3 c172_257) (iz_inj (hR 1 (A 0 46)) (by decide)) (fun c => ?_) (fun c => ?_)
                · have h := h.1 c
                  refine p_lc (ls' := []) c172_284 rfl rfl ?_
                  refine i_push (n := 4) (cct c172_284 rfl) zl_4 ?_
                  refine p_goto (cc3 c172_285) ?_
                  refine (fun _ : Rg 4 => n_puti hΦ (cct c172_289 rfl) (ji := 47) rfl ?_) (by decide)
                  exact p_rv (cc3 c172_292) h
                · have h := h.2 c
                  refine p_ild (cc3 c172_260) rfl ?_
                  refine i_push (n := 45) (cc3 c172_261) zl_45 ?_
                  refine i_icmp (c' := (A 1 (A 0 46)) = 45) (cc3 c172_263) (iz_inj (hR 1 (A 0 46)) (by decide)) (fun c => ?_) (fun c => ?_)
                  · have h := h.1 c
                    refine p_lc (ls' := []) c172_284 rfl rfl ?_
                    refine i_push (n := 4) (cct c172_284 rfl) zl_4 ?_
                    refine p_goto (cc3 c172_285) ?_
                    refine (fun _ : Rg 4 => n_puti hΦ (cct c172_289 rfl) (ji := 47) rfl ?_) (by decide)
                    exact p_rv (cc3 c172_292) h
                  · have h := h.2 c
                    refine p_ild (cc3 c172_266) rfl ?_
                    refine i_push (n := 42) (cc3 c172_267) zl_42 ?_
                    refine i_icmp (c' := (A 1 (A 0 46)) = 42) (cc3 c172_269) (iz_inj (hR 1 (A 0 46)) (by decide)) (fun c => ?_) (fun c => ?_)
                    · have h := h.1 c
                      refine p_lc (ls' := []) c172_284 rfl rfl ?_
                      refine i_push (n := 4) (cct c172_284 rfl) zl_4 ?_
                      refine p_goto (cc3 c172_285) ?_
                      refine (fun _ : Rg 4 => n_puti hΦ (cct c172_289 rfl) (ji := 47) rfl ?_) (by decide)
                      exact p_rv (cc3 c172_292) h
                    · have h := h.2 c
                      refine p_ild (cc3 c172_272) rfl ?_
                      refine i_push (n := 60) (cc3 c172_273) zl_60 ?_
                      refine i_icmp (c' := (A 1 (A 0 46)) = 60) (cc3 c172_275) (iz_inj (hR 1 (A 0 46)) (by decide)) (fun c => ?_) (fun c => ?_)
                      · have h := h.1 c
                        refine p_lc (ls' := []) c172_284 rfl rfl ?_
                        refine i_push (n := 4) (cct c172_284 rfl) zl_4 ?_
                        refine p_goto (cc3 c172_285) ?_
                        refine (fun _ : Rg 4 => n_puti hΦ (cct c172_289 rfl) (ji := 47) rfl ?_) (by decide)
                        exact p_rv (cc3 c172_292) h
                      · have h := h.2 c
                        refine p_ild (cc3 c172_278) rfl ?_
                        refine i_push (n := 61) (cc3 c172_279) zl_61 ?_
                        refine i_icmp (c' := (A 1 (A 0 46)) = 61) (cc3 c172_281) (iz_inj (hR 1 (A 0 46)) (by decide)) (fun c => ?_) (fun c => ?_)
                        · have h := h.1 c
                          refine p_lc (ls' := []) c172_284 rfl rfl ?_
                          refine i_push (n := 4) (cct c172_284 rfl) zl_4 ?_
                          refine p_goto (cc3 c172_285) ?_
                          refine (fun _ : Rg 4 => n_puti hΦ (cct c172_289 rfl) (ji := 47) rfl ?_) (by decide)
                          exact p_rv (cc3 c172_292) h
                        · have h := h.2 c
                          refine i_push (n := 5) (cc3 c172_288) zl_5 ?_
                          refine p_lc (ls' := []) c172_289 rfl rfl ?_
                          refine (fun _ : Rg 5 => n_puti hΦ (cct c172_289 rfl) (ji := 47) rfl ?_) (by decide)
                          exact p_rv (cc3 c172_292) h
        · have h := h.2 c
          refine p_ald (cc3 c172_108) rfl ?_
          refine i_push (n := 0) (cc3 c172_109) zl_0 ?_
          refine (fun _ : Rg 0 => n_puti hΦ (cc3 c172_110) (ji := 48) rfl ?_) (by decide)
          exact p_lc (ls' := [(0, .ref m)]) c172_113 rfl rfl h
      · have h := h.2 c
        refine p_ald (cc3 c172_95) rfl ?_
        obtain ⟨g2, h⟩ := h
        obtain ⟨g3, h⟩ := h
        obtain ⟨g4, h⟩ := h
        obtain ⟨g5, h⟩ := h
        obtain ⟨g6, h⟩ := h
        obtain ⟨A_1, he, hR_1, hp_1⟩ := S174 (A := UA (UA A 0 49 (A 0 46)) 0 47 0) (Nat.le_trans (by decide) hd) hΦ (rg_UA (rg_UA hR (hR 0 46)) (by decide)) ⟨g2, g3, g4, g5, g6⟩
        have h := h A_1 hR_1 hp_1
        refine p_callV (cc3 c172_96) (Nat.le_of_ble_eq_true rfl) rfl rfl (Nat.le_of_ble_eq_true rfl) (ml_kd hΦ) he ?_
        exact p_rv (cc3 c172_99) h
  · have h := h.2 c
    refine p_ald (cc3 c172_11) rfl ?_
    refine pm_getp hΦ (cc3 c172_12) (c := 1) rfl (by decide) ?_
    refine p_ald (cc3 c172_15) rfl ?_
    refine n_geti hΦ (v := A 0 46) (cc3 c172_16) (ji := 46) rfl rfl ?_
    obtain ⟨g1, h⟩ := h
    refine n_aldi hΦ (c := 1) (n := 160) (ni := 160) (cc3 c172_19) (by decide) rfl rfl rfl (by decide) g1 (v := A 1 (A 0 46)) rfl ?_
    refine i_push (n := 32) (cc3 c172_20) zl_32 ?_
    refine i_icmp (c' := (A 1 (A 0 46)) = 32) (cc3 c172_22) (iz_inj (hR 1 (A 0 46)) (by decide)) (fun c => ?_) (fun c => ?_)
    · have h := h.1 c
      refine p_ald (cct c172_39 rfl) rfl ?_
      refine p_dup (cc3 c172_40) rfl ?_
      refine n_geti hΦ (v := A 0 46) (cc3 c172_41) (ji := 46) rfl rfl ?_
      refine i_push (n := 1) (cc3 c172_44) zl_1 ?_
      obtain ⟨g2, h⟩ := h
      refine (fun _ : Rg ((A 0 46) + 1) => i_add (cc3 c172_45) ?_) g2
      refine (fun _ : Rg ((A 0 46) + 1) => n_puti hΦ (cc3 c172_46) (ji := 46) rfl ?_) g2
      refine p_goto (cc3 c172_49) ?_
      exact h
    · have h := h.2 c
      refine p_ald (cc3 c172_25) rfl ?_
      refine pm_getp hΦ (cc3 c172_26) (c := 1) rfl (by decide) ?_
      refine p_ald (cc3 c172_29) rfl ?_
      refine n_geti hΦ (v := A 0 46) (cc3 c172_30) (ji := 46) rfl rfl ?_
      refine n_aldi hΦ (c := 1) (n := 160) (ni := 160) (cc3 c172_33) (by decide) rfl rfl rfl (by decide) g1 (v := A 1 (A 0 46)) rfl ?_
      refine i_push (n := 10) (cc3 c172_34) zl_10 ?_
      refine i_icmp (c' := (A 1 (A 0 46)) = 10) (cc3 c172_36) (iz_inj (hR 1 (A 0 46)) (by decide)) (fun c => ?_) (fun c => ?_)
      · have h := h.1 c
        refine p_ald (cct c172_39 rfl) rfl ?_
        refine p_dup (cc3 c172_40) rfl ?_
        refine n_geti hΦ (v := A 0 46) (cc3 c172_41) (ji := 46) rfl rfl ?_
        refine i_push (n := 1) (cc3 c172_44) zl_1 ?_
        obtain ⟨g2, h⟩ := h
        refine (fun _ : Rg ((A 0 46) + 1) => i_add (cc3 c172_45) ?_) g2
        refine (fun _ : Rg ((A 0 46) + 1) => n_puti hΦ (cc3 c172_46) (ji := 46) rfl ?_) g2
        refine p_goto (cc3 c172_49) ?_
        exact h
      · have h := h.2 c
        refine p_ald (cct c172_52 rfl) rfl ?_
        refine p_ald (cc3 c172_53) rfl ?_
        refine n_geti hΦ (v := A 0 46) (cc3 c172_54) (ji := 46) rfl rfl ?_
        refine (fun _ : Rg (A 0 46) => n_puti hΦ (cc3 c172_57) (ji := 49) rfl ?_) (hR 0 46)
        refine p_ald (cc3 c172_60) rfl ?_
        refine i_push (n := 0) (cc3 c172_61) zl_0 ?_
        refine (fun _ : Rg 0 => n_puti hΦ (cc3 c172_62) (ji := 47) rfl ?_) (by decide)
        refine p_ald (cc3 c172_65) rfl ?_
        refine n_geti hΦ (v := A 0 46) (cc3 c172_66) (ji := 46) rfl rfl ?_
        refine p_ald (cc3 c172_69) rfl ?_
        refine n_geti hΦ (v := A 0 1) (cc3 c172_70) (ji := 1) rfl rfl ?_
        refine i_icmp (c' := (A 0 46) = (A 0 1)) (cc3 c172_73) (iz_inj (hR 0 46) (hR 0 1)) (fun c => ?_) (fun c => ?_)
        · have h := h.1 c
          exact p_rv (cc3 c172_76) h
        · have h := h.2 c
          refine p_ald (cc3 c172_77) rfl ?_
          refine pm_getp hΦ (cc3 c172_78) (c := 1) rfl (by decide) ?_
          refine p_ald (cc3 c172_81) rfl ?_
          refine n_geti hΦ (v := A 0 46) (cc3 c172_82) (ji := 46) rfl rfl ?_
          refine n_aldi hΦ (c := 1) (n := 160) (ni := 160) (cc3 c172_85) (by decide) rfl rfl rfl (by decide) g1 (v := A 1 (A 0 46)) (by first | rfl | exact UA_eq | simp [UA]) ?_
          refine p_ist (ls' := [(1, .int (iz (A 1 (A 0 46)))), (0, .ref m)]) (cc3 c172_86) (by decide) rfl ?_
          refine p_ald (cc3 c172_87) rfl ?_
          refine p_ild (cc3 c172_88) rfl ?_
          refine p_callV (cc3 c172_89) (Nat.le_of_ble_eq_true rfl) rfl rfl (Nat.le_of_ble_eq_true rfl) (ml_kd hΦ) (S173 (Nat.le_trans (by decide) hd) hΦ (rg_UA (rg_UA hR (hR 0 46)) (by decide)) (hR 1 (A 0 46))) ?_
          refine i_ifB (cc3 c172_92) (fun c => ?_) (fun c => ?_)
          · have h := h.1 c
            refine p_ald (cc3 c172_100) rfl ?_
            refine p_ild (cc3 c172_101) rfl ?_
            refine p_callV (cc3 c172_102) (Nat.le_of_ble_eq_true rfl) rfl rfl (Nat.le_of_ble_eq_true rfl) (ml_kd hΦ) (S176 (Nat.le_trans (by decide) hd) hΦ (rg_UA (rg_UA hR (hR 0 46)) (by decide)) (hR 1 (A 0 46))) ?_
            refine i_ifB (cc3 c172_105) (fun c => ?_) (fun c => ?_)
            · have h := h.1 c
              refine p_ald (cc3 c172_220) rfl ?_
              refine p_dup (cc3 c172_221) rfl ?_
              refine n_geti hΦ (v := A 0 46) (cc3 c172_222) (ji := 46) rfl rfl ?_
              refine i_push (n := 1) (cc3 c172_225) zl_1 ?_
              obtain ⟨g2, h⟩ := h
              refine (fun _ : Rg ((A 0 46) + 1) => i_add (cc3 c172_226) ?_) g2
              refine (fun _ : Rg ((A 0 46) + 1) => n_puti hΦ (cc3 c172_227) (ji := 46) rfl ?_) g2
              refine p_ald (cc3 c172_230) rfl ?_
              refine p_ild (cc3 c172_231) rfl ?_
              refine (fun _ : Rg (A 1 (A 0 46)) => n_puti hΦ (cc3 c172_232) (ji := 48) rfl ?_) (hR 1 (A 0 46))
              refine p_ald (cc3 c172_235) rfl ?_
              refine p_ild (cc3 c172_236) rfl ?_
              refine i_push (n := 40) (cc3 c172_237) zl_40 ?_
              refine i_icmp (c' := (A 1 (A 0 46)) = 40) (cc3 c172_239) (iz_inj (hR 1 (A 0 46)) (by decide)) (fun c => ?_) (fun c => ?_)
              · have h := h.1 c
                refine p_lc (ls' := []) c172_284 rfl rfl ?_
                refine i_push (n := 4) (cct c172_284 rfl) zl_4 ?_
                refine p_goto (cc3 c172_285) ?_
                refine (fun _ : Rg 4 => n_puti hΦ (cct c172_289 rfl) (ji := 47) rfl ?_) (by decide)
                exact p_rv (cc3 c172_292) h
              · have h := h.2 c
                refine p_ild (cc3 c172_242) rfl ?_
                refine i_push (n := 41) (cc3 c172_243) zl_41 ?_
                refine i_icmp (c' := (A 1 (A 0 46)) = 41) (cc3 c172_245) (iz_inj (hR 1 (A 0 46)) (by decide)) (fun c => ?_) (fun c => ?_)
                · have h := h.1 c
                  refine p_lc (ls' := []) c172_284 rfl rfl ?_
                  refine i_push (n := 4) (cct c172_284 rfl) zl_4 ?_
                  refine p_goto (cc3 c172_285) ?_
                  refine (fun _ : Rg 4 => n_puti hΦ (cct c172_289 rfl) (ji := 47) rfl ?_) (by decide)
                  exact p_rv (cc3 c172_292) h
                · have h := h.2 c
                  refine p_ild (cc3 c172_248) rfl ?_
                  refine i_push (n := 59) (cc3 c172_249) zl_59 ?_
                  refine i_icmp (c' := (A 1 (A 0 46)) = 59) (cc3 c172_251) (iz_inj (hR 1 (A 0 46)) (by decide)) (fun c => ?_) (fun c => ?_)
                  · have h := h.1 c
                    refine p_lc (ls' := []) c172_284 rfl rfl ?_
                    refine i_push (n := 4) (cct c172_284 rfl) zl_4 ?_
                    refine p_goto (cc3 c172_285) ?_
                    refine (fun _ : Rg 4 => n_puti hΦ (cct c172_289 rfl) (ji := 47) rfl ?_) (by decide)
                    exact p_rv (cc3 c172_292) h
                  · have h := h.2 c
                    refine p_ild (cc3 c172_254) rfl ?_
                    refine i_push (n := 43) (cc3 c172_255) zl_43 ?_
                    refine i_icmp (c' := (A 1 (A 0 46)) = 43) (cc3 c172_257) (iz_inj (hR 1 (A 0 46)) (by decide)) (fun c => ?_) (fun c => ?_)
                    · have h := h.1 c
                      refine p_lc (ls' := []) c172_284 rfl rfl ?_
                      refine i_push (n := 4) (cct c172_284 rfl) zl_4 ?_
                      refine p_goto (cc3 c172_285) ?_
                      refine (fun _ : Rg 4 => n_puti hΦ (cct c172_289 rfl) (ji := 47) rfl ?_) (by decide)
                      exact p_rv (cc3 c172_292) h
                    · have h := h.2 c
                      refine p_ild (cc3 c172_260) rfl ?_
                      refine i_push (n := 45) (cc3 c172_261) zl_45 ?_
                      refine i_icmp (c' := (A 1 (A 0 46)) = 45) (cc3 c172_263) (iz_inj (hR 1 (A 0 46)) (by decide)) (fun c => ?_) (fun c => ?_)
                      · have h := h.1 c
                        refine p_lc (ls' := []) c172_284 rfl rfl ?_
                        refine i_push (n := 4) (cct c172_284 rfl) zl_4 ?_
                        refine p_goto (cc3 c172_285) ?_
                        refine (fun _ : Rg 4 => n_puti hΦ (cct c172_289 rfl) (ji := 47) rfl ?_) (by decide)
                        exact p_rv (cc3 c172_292) h
                      · have h := h.2 c
                        refine p_ild (cc3 c172_266) rfl ?_
                        refine i_push (n := 42) (cc3 c172_267) zl_42 ?_
                        refine i_icmp (c' := (A 1 (A 0 46)) = 42) (cc3 c172_269) (iz_inj (hR 1 (A 0 46)) (by decide)) (fun c => ?_) (fun c => ?_)
                        · have h := h.1 c
                          refine p_lc (ls' := []) c172_284 rfl rfl ?_
                          refine i_push (n := 4) (cct c172_284 rfl) zl_4 ?_
                          refine p_goto (cc3 c172_285) ?_
                          refine (fun _ : Rg 4 => n_puti hΦ (cct c172_289 rfl) (ji := 47) rfl ?_) (by decide)
                          exact p_rv (cc3 c172_292) h
                        · have h := h.2 c
                          refine p_ild (cc3 c172_272) rfl ?_
                          refine i_push (n := 60) (cc3 c172_273) zl_60 ?_
                          refine i_icmp (c' := (A 1 (A 0 46)) = 60) (cc3 c172_275) (iz_inj (hR 1 (A 0 46)) (by decide)) (fun c => ?_) (fun c => ?_)
                          · have h := h.1 c
                            refine p_lc (ls' := []) c172_284 rfl rfl ?_
                            refine i_push (n := 4) (cct c172_284 rfl) zl_4 ?_
                            refine p_goto (cc3 c172_285) ?_
                            refine (fun _ : Rg 4 => n_puti hΦ (cct c172_289 rfl) (ji := 47) rfl ?_) (by decide)
                            exact p_rv (cc3 c172_292) h
                          · have h := h.2 c
                            refine p_ild (cc3 c172_278) rfl ?_
                            refine i_push (n := 61) (cc3 c172_279) zl_61 ?_
                            refine i_icmp (c' := (A 1 (A 0 46)) = 61) (cc3 c172_281) (iz_inj (hR 1 (A 0 46)) (by decide)) (fun c => ?_) (fun c => ?_)
                            · have h := h.1 c
                              refine p_lc (ls' := []) c172_284 rfl rfl ?_
                              refine i_push (n := 4) (cct c172_284 rfl) zl_4 ?_
                              refine p_goto (cc3 c172_285) ?_
                              refine (fun _ : Rg 4 => n_puti hΦ (cct c172_289 rfl) (ji := 47) rfl ?_) (by decide)
                              exact p_rv (cc3 c172_292) h
                            · have h := h.2 c
                              refine i_push (n := 5) (cc3 c172_288) zl_5 ?_
                              refine p_lc (ls' := []) c172_289 rfl rfl ?_
                              refine (fun _ : Rg 5 => n_puti hΦ (cct c172_289 rfl) (ji := 47) rfl ?_) (by decide)
                              exact p_rv (cc3 c172_292) h
            · have h := h.2 c
              refine p_ald (cc3 c172_108) rfl ?_
              refine i_push (n := 0) (cc3 c172_109) zl_0 ?_
              refine (fun _ : Rg 0 => n_puti hΦ (cc3 c172_110) (ji := 48) rfl ?_) (by decide)
              exact p_lc (ls' := [(0, .ref m)]) c172_113 rfl rfl h
          · have h := h.2 c
            refine p_ald (cc3 c172_95) rfl ?_
            obtain ⟨g2, h⟩ := h
            obtain ⟨g3, h⟩ := h
            obtain ⟨g4, h⟩ := h
            obtain ⟨g5, h⟩ := h
            obtain ⟨g6, h⟩ := h
            obtain ⟨A_1, he, hR_1, hp_1⟩ := S174 (A := UA (UA A 0 49 (A 0 46)) 0 47 0) (Nat.le_trans (by decide) hd) hΦ (rg_UA (rg_UA hR (hR 0 46)) (by decide)) ⟨g2, g3, g4, g5, g6⟩
            have h := h A_1 hR_1 hp_1
            refine p_callV (cc3 c172_96) (Nat.le_of_ble_eq_true rfl) rfl rfl (Nat.le_of_ble_eq_true rfl) (ml_kd hΦ) he ?_
            exact p_rv (cc3 c172_99) h
theorem V172_113 {d : Nat} (hd : 2 ≤ d) {Q : Option Value → xM → Prop} {m : Nat} {Φ : (Nat → Nat → Int32) → xM} (hΦ : MLaw m Φ) {A : Nat → Int → Int} (hR : RG A) (h : ((((A 0 1) ≤ (A 0 46)) → (Rg ((A 0 46) - (A 0 49))) ∧ (((((A 0 46) - (A 0 49)) ≤ 4) → Q none (Φ (mI (UA A 0 47 1)))) ∧ (¬ (((A 0 46) - (A 0 49)) ≤ 4) → Q none (Φ (mI (UA A 0 47 5)))))) ∧ (¬ ((A 0 1) ≤ (A 0 46)) → (0 ≤ (A 0 46) ∧ (A 0 46) < 160) ∧ ((¬ (48 ≤ (A 1 (A 0 46)) ∧ (A 1 (A 0 46)) ≤ 57) → (Rg ((A 0 46) - (A 0 49))) ∧ (((((A 0 46) - (A 0 49)) ≤ 4) → Q none (Φ (mI (UA A 0 47 1)))) ∧ (¬ (((A 0 46) - (A 0 49)) ≤ 4) → Q none (Φ (mI (UA A 0 47 5)))))) ∧ ((48 ≤ (A 1 (A 0 46)) ∧ (A 1 (A 0 46)) ≤ 57) → (Rg ((A 0 46) - (A 0 49))) ∧ (((4 ≤ ((A 0 46) - (A 0 49))) → (Rg ((A 0 46) + 1)) ∧ wpE (xT 172) (xev xT d) Q (113, [(0, .ref m)], [], Φ (mI (UA (UA A 0 48 (A 0 48)) 0 46 ((A 0 46) + 1))))) ∧ (¬ (4 ≤ ((A 0 46) - (A 0 49))) → (Rg (10 * (A 0 48))) ∧ (Rg ((10 * (A 0 48)) + (A 1 (A 0 46)))) ∧ (Rg (((10 * (A 0 48)) + (A 1 (A 0 46))) - 48)) ∧ (Rg ((A 0 46) + 1)) ∧ wpE (xT 172) (xev xT d) Q (113, [(0, .ref m)], [], Φ (mI (UA (UA A 0 48 (((10 * (A 0 48)) + (A 1 (A 0 46))) - 48)) 0 46 ((A 0 46) + 1))))))))))) : wpE (xT 172) (xev xT d) Q (113, [(0, .ref m)], [], Φ (mI A)) := by
  refine p_ald (cct c172_113 rfl) rfl ?_
  refine n_geti hΦ (v := A 0 46) (cc3 c172_114) (ji := 46) rfl rfl ?_
  refine p_ald (cc3 c172_117) rfl ?_
  refine n_geti hΦ (v := A 0 1) (cc3 c172_118) (ji := 1) rfl rfl ?_
  refine i_icmp (c' := (A 0 1) ≤ (A 0 46)) (cc3 c172_121) (iz_le (hR 0 1) (hR 0 46)) (fun c => ?_) (fun c => ?_)
  · have h := h.1 c
    refine p_ald (cct c172_197 rfl) rfl ?_
    refine p_ald (cc3 c172_198) rfl ?_
    refine n_geti hΦ (v := A 0 46) (cc3 c172_199) (ji := 46) rfl rfl ?_
    refine p_ald (cc3 c172_202) rfl ?_
    refine n_geti hΦ (v := A 0 49) (cc3 c172_203) (ji := 49) rfl rfl ?_
    obtain ⟨g1, h⟩ := h
    refine (fun _ : Rg ((A 0 46) - (A 0 49)) => i_sub (cc3 c172_206) ?_) g1
    refine i_push (n := 4) (cc3 c172_207) zl_4 ?_
    refine i_icmp (c' := ((A 0 46) - (A 0 49)) ≤ 4) (cc3 c172_208) (iz_le g1 (by decide)) (fun c => ?_) (fun c => ?_)
    · have h := h.1 c
      refine i_push (n := 1) (cc3 c172_215) zl_1 ?_
      refine p_lc (ls' := []) c172_216 rfl rfl ?_
      refine (fun _ : Rg 1 => n_puti hΦ (cct c172_216 rfl) (ji := 47) rfl ?_) (by decide)
      exact p_rv (cc3 c172_219) h
    · have h := h.2 c
      refine i_push (n := 5) (cc3 c172_211) zl_5 ?_
      refine p_goto (cc3 c172_212) ?_
      refine p_lc (ls' := []) c172_216 rfl rfl ?_
      refine (fun _ : Rg 5 => n_puti hΦ (cct c172_216 rfl) (ji := 47) rfl ?_) (by decide)
      exact p_rv (cc3 c172_219) h
  · have h := h.2 c
    refine p_ald (cc3 c172_124) rfl ?_
    refine p_ald (cc3 c172_125) rfl ?_
    refine pm_getp hΦ (cc3 c172_126) (c := 1) rfl (by decide) ?_
    refine p_ald (cc3 c172_129) rfl ?_
    refine n_geti hΦ (v := A 0 46) (cc3 c172_130) (ji := 46) rfl rfl ?_
    obtain ⟨g1, h⟩ := h
    refine n_aldi hΦ (c := 1) (n := 160) (ni := 160) (cc3 c172_133) (by decide) rfl rfl rfl (by decide) g1 (v := A 1 (A 0 46)) rfl ?_
    refine p_callV (cc3 c172_134) (Nat.le_of_ble_eq_true rfl) rfl rfl (Nat.le_of_ble_eq_true rfl) (ml_kd hΦ) (S176 (Nat.le_trans (by decide) hd) hΦ hR (hR 1 (A 0 46))) ?_
    refine i_ifB (cc3 c172_137) (fun c => ?_) (fun c => ?_)
    · have h := h.1 c
      refine p_ald (cct c172_197 rfl) rfl ?_
      refine p_ald (cc3 c172_198) rfl ?_
      refine n_geti hΦ (v := A 0 46) (cc3 c172_199) (ji := 46) rfl rfl ?_
      refine p_ald (cc3 c172_202) rfl ?_
      refine n_geti hΦ (v := A 0 49) (cc3 c172_203) (ji := 49) rfl rfl ?_
      obtain ⟨g2, h⟩ := h
      refine (fun _ : Rg ((A 0 46) - (A 0 49)) => i_sub (cc3 c172_206) ?_) g2
      refine i_push (n := 4) (cc3 c172_207) zl_4 ?_
      refine i_icmp (c' := ((A 0 46) - (A 0 49)) ≤ 4) (cc3 c172_208) (iz_le g2 (by decide)) (fun c => ?_) (fun c => ?_)
      · have h := h.1 c
        refine i_push (n := 1) (cc3 c172_215) zl_1 ?_
        refine p_lc (ls' := []) c172_216 rfl rfl ?_
        refine (fun _ : Rg 1 => n_puti hΦ (cct c172_216 rfl) (ji := 47) rfl ?_) (by decide)
        exact p_rv (cc3 c172_219) h
      · have h := h.2 c
        refine i_push (n := 5) (cc3 c172_211) zl_5 ?_
        refine p_goto (cc3 c172_212) ?_
        refine p_lc (ls' := []) c172_216 rfl rfl ?_
        refine (fun _ : Rg 5 => n_puti hΦ (cct c172_216 rfl) (ji := 47) rfl ?_) (by decide)
        exact p_rv (cc3 c172_219) h
    · have h := h.2 c
      refine p_ald (cc3 c172_140) rfl ?_
      refine p_ald (cc3 c172_141) rfl ?_
      refine n_geti hΦ (v := A 0 46) (cc3 c172_142) (ji := 46) rfl rfl ?_
      refine p_ald (cc3 c172_145) rfl ?_
      refine n_geti hΦ (v := A 0 49) (cc3 c172_146) (ji := 49) rfl rfl ?_
      obtain ⟨g2, h⟩ := h
      refine (fun _ : Rg ((A 0 46) - (A 0 49)) => i_sub (cc3 c172_149) ?_) g2
      refine i_push (n := 4) (cc3 c172_150) zl_4 ?_
      refine i_icmp (c' := 4 ≤ ((A 0 46) - (A 0 49))) (cc3 c172_151) (iz_le (by decide) g2) (fun c => ?_) (fun c => ?_)
      · have h := h.1 c
        refine p_ald (cc3 c172_177) rfl ?_
        refine n_geti hΦ (v := A 0 48) (cc3 c172_178) (ji := 48) rfl rfl ?_
        refine (fun _ : Rg (A 0 48) => n_puti hΦ (cct c172_181 rfl) (ji := 48) rfl ?_) (hR 0 48)
        refine p_ald (cc3 c172_184) rfl ?_
        refine p_dup (cc3 c172_185) rfl ?_
        refine n_geti hΦ (v := A 0 46) (cc3 c172_186) (ji := 46) rfl rfl ?_
        refine i_push (n := 1) (cc3 c172_189) zl_1 ?_
        obtain ⟨g3, h⟩ := h
        refine (fun _ : Rg ((A 0 46) + 1) => i_add (cc3 c172_190) ?_) g3
        refine (fun _ : Rg ((A 0 46) + 1) => n_puti hΦ (cc3 c172_191) (ji := 46) rfl ?_) g3
        refine p_goto (cc3 c172_194) ?_
        exact h
      · have h := h.2 c
        refine i_push (n := 10) (cc3 c172_154) zl_10 ?_
        refine p_ald (cc3 c172_156) rfl ?_
        refine n_geti hΦ (v := A 0 48) (cc3 c172_157) (ji := 48) rfl rfl ?_
        obtain ⟨g3, h⟩ := h
        refine (fun _ : Rg (10 * (A 0 48)) => i_mul (cc3 c172_160) ?_) g3
        refine p_ald (cc3 c172_161) rfl ?_
        refine pm_getp hΦ (cc3 c172_162) (c := 1) rfl (by decide) ?_
        refine p_ald (cc3 c172_165) rfl ?_
        refine n_geti hΦ (v := A 0 46) (cc3 c172_166) (ji := 46) rfl rfl ?_
        refine n_aldi hΦ (c := 1) (n := 160) (ni := 160) (cc3 c172_169) (by decide) rfl rfl rfl (by decide) g1 (v := A 1 (A 0 46)) rfl ?_
        obtain ⟨g4, h⟩ := h
        refine (fun _ : Rg ((10 * (A 0 48)) + (A 1 (A 0 46))) => i_add (cc3 c172_170) ?_) g4
        refine i_push (n := 48) (cc3 c172_171) zl_48 ?_
        obtain ⟨g5, h⟩ := h
        refine (fun _ : Rg (((10 * (A 0 48)) + (A 1 (A 0 46))) - 48) => i_sub (cc3 c172_173) ?_) g5
        refine p_goto (cc3 c172_174) ?_
        refine (fun _ : Rg (((10 * (A 0 48)) + (A 1 (A 0 46))) - 48) => n_puti hΦ (cct c172_181 rfl) (ji := 48) rfl ?_) g5
        refine p_ald (cc3 c172_184) rfl ?_
        refine p_dup (cc3 c172_185) rfl ?_
        refine n_geti hΦ (v := A 0 46) (cc3 c172_186) (ji := 46) rfl rfl ?_
        refine i_push (n := 1) (cc3 c172_189) zl_1 ?_
        obtain ⟨g6, h⟩ := h
        refine (fun _ : Rg ((A 0 46) + 1) => i_add (cc3 c172_190) ?_) g6
        refine (fun _ : Rg ((A 0 46) + 1) => n_puti hΦ (cc3 c172_191) (ji := 46) rfl ?_) g6
        refine p_goto (cc3 c172_194) ?_
        exact h

theorem L172n {d : Nat} (hd : 2 ≤ d) {Q : Option Value → xM → Prop} {m : Nat} {Φ : (Nat → Nat → Int32) → xM} (hΦ : MLaw m Φ) {A0 : Nat → Int → Int} {B p : Int} (hB : tkB (A0 1) (A0 0 1) p = B) (h0 : 0 ≤ B) (hlt : B < A0 0 1) (hn : A0 0 1 ≤ 160) (hL : ¬ isLe (A0 1 B) = true) (hD : isDi (A0 1 B) = true)
    (hQ : ∀ A', RG A' → Fr [] [46, 47, 48, 49] A0 A' → Cur A' (A0 1) (A0 0 1) p → Q none (Φ (mI A'))) :
    ∀ (r k : Nat) (A : Nat → Int → Int), A0 0 1 - (B + k) = r → RG A → Fr [] [46, 47, 48, 49] A0 A → A 0 49 = B → A 0 46 = B + k → (∀ i : Nat, i < k → 48 ≤ A0 1 (B + i) ∧ A0 1 (B + i) ≤ 57) → A 0 48 = dv (A0 1) B (min 4 k) → skf isDi (A0 1) (A0 0 1) (B + k) = skf isDi (A0 1) (A0 0 1) B → wpE (xT 172) (xev xT d) Q (113, [(0, .ref m)], [], Φ (mI A)) := by
  have eE : tkE (A0 1) (A0 0 1) p = skf isDi (A0 1) (A0 0 1) B := by unfold tkE; rw [hB, if_neg (by omega), if_neg hL, if_pos hD]
  have eC : tkC (A0 1) (A0 0 1) p = if skf isDi (A0 1) (A0 0 1) B - B ≤ 4 then 400 else 402 := by unfold tkC; rw [hB, if_neg (by omega), if_neg hL, if_pos hD, eE]
  have hend : ∀ (k : Nat) (A : Nat → Int → Int), RG A → Fr [] [46, 47, 48, 49] A0 A → A 0 49 = B → A 0 46 = B + k → A 0 48 = dv (A0 1) B (min 4 k) → B + k = skf isDi (A0 1) (A0 0 1) B → (A 0 46 - A 0 49 ≤ 4 → Q none (Φ (mI (UA A 0 47 1)))) ∧ (¬ A 0 46 - A 0 49 ≤ 4 → Q none (Φ (mI (UA A 0 47 5)))) := fun k A hR hF h49 h46 h48 hk => by
    refine ⟨fun c => hQ _ (rg_UA hR (by decide)) (hF.fld (by decide)) ⟨?_, ?_, ?_, fun q1 q2 => ?_⟩, fun c => hQ _ (rg_UA hR (by decide)) (hF.fld (by decide)) ⟨?_, ?_, ?_, fun q1 q2 => ?_⟩⟩
    · rw [UA_j (by decide), h49, hB]
    · rw [UA_j (by decide), h46, eE, hk]
    · rw [UA_eq, eC, if_pos (by omega)]; rfl
    · rw [UA_j (by decide), h48, eC, if_pos (by omega)]
      show _ = tkV (A0 1) (A0 0 1) p
      unfold tkV
      rw [hB, eE, ← hk]
      congr 1
      omega
    · rw [UA_j (by decide), h49, hB]
    · rw [UA_j (by decide), h46, eE, hk]
    · rw [UA_eq, eC, if_neg (by omega)]; rfl
    · rw [eC, if_neg (by omega)] at q2; exact absurd rfl q2
  intro r
  induction r with
  | zero =>
    intro k A hr hR hF h49 h46 hdg h48 hE
    have e01 : A 0 1 = A0 0 1 := hF.2 1 (by decide)
    rw [skf_e (by omega)] at hE
    obtain ⟨q1, q2⟩ := hend k A hR hF h49 h46 h48 hE
    refine V172_113 hd hΦ hR ?_
    rw [e01]
    exact ⟨fun _ => ⟨by omega, q1, q2⟩, fun h => absurd (show A0 0 1 ≤ A 0 46 by omega) h⟩
  | succ r ih =>
    intro k A hr hR hF h49 h46 hdg h48 hE
    have e1 : A 1 = A0 1 := hF.1 1 (by decide) (by decide)
    have e01 : A 0 1 = A0 0 1 := hF.2 1 (by decide)
    have hdb := dv_b4 (t := A0 1) (p := B) (min 4 k) (by omega) (fun i hi => hdg i (by omega))
    refine V172_113 hd hΦ hR ?_
    rw [e01, e1]
    refine ⟨fun h => absurd h (by omega), fun _ => ⟨by omega, fun c => ⟨by omega, ?_⟩, fun c => ⟨by omega, fun c2 => ⟨by omega, ?_⟩, fun c2 => ?_⟩⟩⟩
    · rw [skf_s (by omega), if_neg (by rw [← h46]; unfold isDi; simpa using c)] at hE
      exact hend k A hR hF h49 h46 h48 hE
    · rw [h46] at c c2 ⊢
      rw [skf_s (by omega), if_pos (by unfold isDi; simpa using c)] at hE
      refine ih (k + 1) _ (by omega) (rg_UA (rg_UA hR (hR _ _)) (by omega)) ((hF.fld (by decide)).fld (by decide)) (by rw [UA_j (by decide), UA_j (by decide)]; exact h49) (by rw [UA_eq]; omega) (fun i hi => ?_) (by rw [UA_j (by decide), UA_eq, h48, show min 4 (k + 1) = min 4 k by omega]) (by rw [show B + ((k + 1 : Nat) : Int) = B + k + 1 by omega]; exact hE)
      by_cases e : i = k
      · subst e; exact c
      · exact hdg i (by omega)
    · rw [h46] at c c2 ⊢
      rw [skf_s (by omega), if_pos (by unfold isDi; simpa using c)] at hE
      have e48 : 10 * A 0 48 + A0 1 (B + k) - 48 = dv (A0 1) B (min 4 (k + 1)) := by
        rw [h48, show min 4 (k + 1) = min 4 k + 1 by omega]
        show _ = 10 * dv (A0 1) B (min 4 k) + A0 1 (B + ((min 4 k : Nat) : Int)) - 48
        rw [show ((min 4 k : Nat) : Int) = (k : Int) by omega]
      have hdb2 := hdb.2.1 (by omega)
      refine ⟨by omega, by omega, by omega, by omega, ?_⟩
      refine ih (k + 1) _ (by omega) (rg_UA (rg_UA hR (by omega)) (by omega)) ((hF.fld (by decide)).fld (by decide)) (by rw [UA_j (by decide), UA_j (by decide)]; exact h49) (by rw [UA_eq]; omega) (fun i hi => ?_) (by rw [UA_j (by decide), UA_eq]; exact e48) (by rw [show B + ((k + 1 : Nat) : Int) = B + k + 1 by omega]; exact hE)
      by_cases e : i = k
      · subst e; exact c
      · exact hdg i (by omega)
theorem L172 {d : Nat} (hd : 2 ≤ d) {Q : Option Value → xM → Prop} {m : Nat} {Φ : (Nat → Nat → Int32) → xM} (hΦ : MLaw m Φ) {A0 : Nat → Int → Int} {B p : Int} (hT : TapeB (A0 1)) (hB : tkB (A0 1) (A0 0 1) p = B) (hn : A0 0 1 ≤ 160)
    (hQ : ∀ A', RG A' → Fr [] [46, 47, 48, 49] A0 A' → Cur A' (A0 1) (A0 0 1) p → Q none (Φ (mI A'))) :
    ∀ (r : Nat) (A : Nat → Int → Int), A0 0 1 - A 0 46 = r → 0 ≤ A 0 46 → RG A → Fr [] [46] A0 A → skf isBl (A0 1) (A0 0 1) (A 0 46) = B → wpE (xT 172) (xev xT d) Q (0, [(0, .ref m)], [], Φ (mI A)) := by
  intro r
  induction r with
  | zero =>
    intro A hr h0 hR hF hsk
    have e1 : A 1 = A0 1 := hF.1 1 (by decide) (by decide)
    have e01 : A 0 1 = A0 0 1 := hF.2 1 (by decide)
    rw [skf_e (by omega)] at hsk
    have hEND : Q none (Φ (mI (UA (UA A 0 49 (A 0 46)) 0 47 0))) := by
      refine hQ _ (rg_UA (rg_UA hR (hR _ _)) (by decide)) (((hF.mono (fun c h => h) (fun j h => by revert h; simp; omega)).fld (by decide)).fld (by decide)) ⟨?_, ?_, ?_, fun q1 q2 => ?_⟩
      · rw [UA_j (by decide), UA_eq, hB, hsk]
      · rw [UA_j (by decide), UA_j (by decide)]; unfold tkE; rw [hB, if_pos (by omega), hsk]
      · rw [UA_eq]; unfold tkC; rw [hB, if_pos (by omega)]; rfl
      · unfold tkC at q1; rw [hB, if_pos (by omega)] at q1; exact absurd rfl q1
    refine V172_0 hd hΦ hR ?_
    rw [e01, e1]
    refine ⟨fun _ => ⟨fun _ => hEND, fun h => absurd (show A 0 46 = A0 0 1 by omega) h⟩, fun h => absurd (show A0 0 1 ≤ A 0 46 by omega) h⟩
  | succ r ih =>
    intro A hr h0 hR hF hsk
    have e1 : A 1 = A0 1 := hF.1 1 (by decide) (by decide)
    have e01 : A 0 1 = A0 0 1 := hF.2 1 (by decide)
    have hF4 : Fr [] [46, 47, 48, 49] A0 A := hF.mono (fun c h => h) (fun j h => by revert h; simp; omega)
    have tb := hT (A 0 46)
    rw [skf_s (by omega)] at hsk
    have hNEXT : (A0 1 (A 0 46) = 32 ∨ A0 1 (A 0 46) = 10) → wpE (xT 172) (xev xT d) Q (0, [(0, .ref m)], [], Φ (mI (UA A 0 46 (A 0 46 + 1)))) := fun c => by
      rw [if_pos (by unfold isBl; simpa using c)] at hsk
      exact ih _ (by rw [UA_eq]; omega) (by rw [UA_eq]; omega) (rg_UA hR (by omega)) (hF.fld (by decide)) (by rw [UA_eq]; exact hsk)
    have hsB : ¬ (A0 1 (A 0 46) = 32 ∨ A0 1 (A 0 46) = 10) → A 0 46 = B := fun c => by
      rw [if_neg (by unfold isBl; simpa using c)] at hsk; exact hsk
    have hSG : ¬ (A0 1 (A 0 46) = 32 ∨ A0 1 (A 0 46) = 10) → ¬ (97 ≤ A0 1 (A 0 46) ∧ A0 1 (A 0 46) ≤ 122) → ¬ (48 ≤ A0 1 (A 0 46) ∧ A0 1 (A 0 46) ≤ 57) → (isSg (A0 1 (A 0 46)) → Q none (Φ (mI (UA (UA (UA (UA (UA A 0 49 (A 0 46)) 0 47 0) 0 46 (A 0 46 + 1)) 0 48 (A0 1 (A 0 46))) 0 47 4)))) ∧ (¬ isSg (A0 1 (A 0 46)) → Q none (Φ (mI (UA (UA (UA (UA (UA A 0 49 (A 0 46)) 0 47 0) 0 46 (A 0 46 + 1)) 0 48 (A0 1 (A 0 46))) 0 47 5)))) := fun c1 c2 c3 => by
      have hb := hsB c1
      rw [hb] at c2 c3 tb ⊢
      have n2 : ¬ isLe (A0 1 B) = true := by unfold isLe; simpa using c2
      have n3 : ¬ isDi (A0 1 B) = true := by unfold isDi; simpa using c3
      have eE : tkE (A0 1) (A0 0 1) p = B + 1 := by unfold tkE; rw [hB, if_neg (by omega), if_neg n2, if_neg n3]
      have hR' : ∀ v : Int, Rg v → RG (UA (UA (UA (UA (UA A 0 49 B) 0 47 0) 0 46 (B + 1)) 0 48 (A0 1 B)) 0 47 v) := fun v hv => rg_UA (rg_UA (rg_UA (rg_UA (rg_UA hR (by omega)) (by decide)) (by omega)) (by omega)) hv
      have hF' : ∀ v : Int, Fr [] [46, 47, 48, 49] A0 (UA (UA (UA (UA (UA A 0 49 B) 0 47 0) 0 46 (B + 1)) 0 48 (A0 1 B)) 0 47 v) := fun v => ((((hF4.fld (by decide)).fld (by decide)).fld (by decide)).fld (by decide)).fld (by decide)
      refine ⟨fun c => hQ _ (hR' _ (by decide)) (hF' _) ⟨?_, ?_, ?_, fun q1 q2 => ?_⟩, fun c => hQ _ (hR' _ (by decide)) (hF' _) ⟨?_, ?_, ?_, fun q1 q2 => ?_⟩⟩
      · rw [hB]; rfl
      · rw [eE]; rfl
      · have eC : tkC (A0 1) (A0 0 1) p = A0 1 B := by unfold tkC; rw [hB, if_neg (by omega), if_neg n2, if_neg n3, if_pos c]
        rw [eC, UA_eq]; unfold mTok; (repeat' split) <;> omega
      · have eC : tkC (A0 1) (A0 0 1) p = A0 1 B := by unfold tkC; rw [hB, if_neg (by omega), if_neg n2, if_neg n3, if_pos c]
        rw [eC, UA_j (by decide), UA_eq]; unfold mVal; (repeat' split) <;> omega
      · rw [hB]; rfl
      · rw [eE]; rfl
      · have eC : tkC (A0 1) (A0 0 1) p = 402 := by unfold tkC; rw [hB, if_neg (by omega), if_neg n2, if_neg n3, if_neg c]
        rw [eC, UA_eq]; rfl
      · have eC : tkC (A0 1) (A0 0 1) p = 402 := by unfold tkC; rw [hB, if_neg (by omega), if_neg n2, if_neg n3, if_neg c]
        exact absurd eC q2
    have hDG : ¬ (A0 1 (A 0 46) = 32 ∨ A0 1 (A 0 46) = 10) → ¬ (97 ≤ A0 1 (A 0 46) ∧ A0 1 (A 0 46) ≤ 122) → (48 ≤ A0 1 (A 0 46) ∧ A0 1 (A 0 46) ≤ 57) → wpE (xT 172) (xev xT d) Q (113, [(0, .ref m)], [], Φ (mI (UA (UA (UA A 0 49 (A 0 46)) 0 47 0) 0 48 0))) := fun c1 c2 c3 => by
      have hb := hsB c1
      rw [hb] at c2 c3 ⊢
      refine L172n hd hΦ hB (by omega) (by omega) hn (by unfold isLe; simpa using c2) (by unfold isDi; simpa using c3) hQ (A0 0 1 - B).toNat 0 _ (by omega) (rg_UA (rg_UA (rg_UA hR (by omega)) (by decide)) (by decide)) (((hF4.fld (by decide)).fld (by decide)).fld (by decide)) rfl (by show A 0 46 = _; omega) (fun i hi => absurd hi (by omega)) rfl (by rw [show B + ((0 : Nat) : Int) = B by omega])
    have hWD : ¬ (A0 1 (A 0 46) = 32 ∨ A0 1 (A 0 46) = 10) → (97 ≤ A0 1 (A 0 46) ∧ A0 1 (A 0 46) ≤ 122) → ∀ A1, RG A1 → (Fr [] [46, 47, 48] (UA (UA A 0 49 (A 0 46)) 0 47 0) A1 ∧ A1 0 46 = skf isLe ((UA (UA A 0 49 (A 0 46)) 0 47 0) 1) ((UA (UA A 0 49 (A 0 46)) 0 47 0) 0 1) ((UA (UA A 0 49 (A 0 46)) 0 47 0) 0 46) ∧ (wkT ((UA (UA A 0 49 (A 0 46)) 0 47 0) 1) ((UA (UA A 0 49 (A 0 46)) 0 47 0) 0 49) (A1 0 46) = -1 → A1 0 47 = 5) ∧ (5 ≤ wkT ((UA (UA A 0 49 (A 0 46)) 0 47 0) 1) ((UA (UA A 0 49 (A 0 46)) 0 47 0) 0 49) (A1 0 46) → A1 0 47 = 2 ∧ A1 0 48 = wkT ((UA (UA A 0 49 (A 0 46)) 0 47 0) 1) ((UA (UA A 0 49 (A 0 46)) 0 47 0) 0 49) (A1 0 46) - 5) ∧ (0 ≤ wkT ((UA (UA A 0 49 (A 0 46)) 0 47 0) 1) ((UA (UA A 0 49 (A 0 46)) 0 47 0) 0 49) (A1 0 46) → wkT ((UA (UA A 0 49 (A 0 46)) 0 47 0) 1) ((UA (UA A 0 49 (A 0 46)) 0 47 0) 0 49) (A1 0 46) ≤ 4 → A1 0 47 = 3 ∧ A1 0 48 = wkT ((UA (UA A 0 49 (A 0 46)) 0 47 0) 1) ((UA (UA A 0 49 (A 0 46)) 0 47 0) 0 49) (A1 0 46))) → Q none (Φ (mI A1)) := fun c1 c2 A1 hR1 hp => by
      have hb := hsB c1
      obtain ⟨p1, p2, p3, p4, p5⟩ := hp
      have y1 : (UA (UA A 0 49 (A 0 46)) 0 47 0) 1 = A0 1 := by rw [← e1]; rfl
      have y2 : (UA (UA A 0 49 (A 0 46)) 0 47 0) 0 1 = A0 0 1 := by rw [← e01]; rfl
      have y3 : (UA (UA A 0 49 (A 0 46)) 0 47 0) 0 46 = B := by rw [← hb]; rfl
      have y4 : (UA (UA A 0 49 (A 0 46)) 0 47 0) 0 49 = B := by rw [← hb]; rfl
      rw [y1, y2, y3] at p2
      rw [y1, y4] at p3 p4 p5
      rw [hb] at c2
      have n2 : isLe (A0 1 B) = true := by unfold isLe; simpa using c2
      have eE : tkE (A0 1) (A0 0 1) p = A1 0 46 := by unfold tkE; rw [hB, if_neg (by omega), if_pos n2, p2]
      have eC : tkC (A0 1) (A0 0 1) p = if wkT (A0 1) B (A1 0 46) = -1 then 402 else 200 + wkT (A0 1) B (A1 0 46) := by unfold tkC; rw [hB, if_neg (by omega), if_pos n2, eE]
      have wb := wkT_b (t := A0 1) (b := B) (e := A1 0 46)
      generalize wkT (A0 1) B (A1 0 46) = w at p3 p4 p5 eC wb
      have hFn : Fr [] [46, 47, 48, 49] A0 A1 := ((hF4.fld (by decide)).fld (by decide)).tr (p1.mono (fun c h => h) (fun j h => by revert h; simp; omega))
      refine hQ A1 hR1 hFn ⟨by rw [p1.2 49 (by decide), hB]; exact y4, eE.symm, ?_, fun q1 q2 => ?_⟩
      · rw [eC]
        by_cases z : w = -1
        · rw [if_pos z, p3 z]; rfl
        · rw [if_neg z]
          unfold mTok
          by_cases z2 : 5 ≤ w
          · rw [(p4 z2).1, if_neg (by omega), if_pos (by omega)]
          · rw [(p5 (by omega) (by omega)).1, if_neg (by omega), if_neg (by omega), if_pos (by omega)]
      · rw [eC] at q2 ⊢
        by_cases z : w = -1
        · rw [if_pos z] at q2; exact absurd rfl q2
        · rw [if_neg z]
          unfold mVal
          by_cases z2 : 5 ≤ w
          · rw [(p4 z2).2, if_neg (by omega), if_pos (by omega)]; omega
          · rw [(p5 (by omega) (by omega)).2, if_neg (by omega), if_neg (by omega), if_pos (by omega)]; omega
    have hTA : ∀ q : Int, -128 ≤ A 1 q ∧ A 1 q ≤ 127 := fun q => by rw [e1]; exact hT q
    refine V172_0 hd hΦ hR ?_
    rw [e01, e1]
    repeat' (first | refine And.intro ?_ ?_ | intro _)
    all_goals (first | omega | exact hNEXT (by omega) | exact (hSG (by omega) (by omega) (by omega)).1 (by unfold isSg; omega) | exact (hSG (by omega) (by omega) (by omega)).2 (by unfold isSg; omega) | exact hDG (by omega) (by omega) (by omega) | exact (hTA _).1 | exact (hTA _).2 | exact hWD (by omega) (by omega) _ (by assumption) (by assumption))
theorem S172 {d : Nat} (hd : 3 ≤ d) {m : Nat} {Φ : (Nat → Nat → Int32) → xM} (hΦ : MLaw m Φ) {A : Nat → Int → Int} (hR : RG A) (hp : (TapeB (A 1)) ∧ (0 ≤ A 0 46) ∧ (A 0 46 ≤ A 0 1) ∧ (A 0 1 ≤ 160)) : ∃ (A' : Nat → Int → Int), xev xT d 172 [.ref m] (Φ (mI A)) none (Φ (mI A')) ∧ RG A' ∧ (Fr [] [46, 47, 48, 49] A A' ∧ Cur A' (A 1) (A 0 1) (A 0 46)) := by
  refine xev_g (i := 172) (as := [.ref m]) (σ := Φ (mI A)) (Q := fun r_ σ_ => ∃ (A' : Nat → Int → Int), r_ = none ∧ σ_ = Φ (mI A') ∧ RG A' ∧ (Fr [] [46, 47, 48, 49] A A' ∧ Cur A' (A 1) (A 0 1) (A 0 46))) (D := 2) hd (Nat.le_of_ble_eq_true rfl) (fun r_ σ_ he hq => ?_) (fun d hd => ?_)
  · obtain ⟨A', rfl, rfl, hq⟩ := hq
    exact ⟨A', he, hq⟩

  obtain ⟨hT, h0, h1, h2⟩ := hp
  exact L172 hd hΦ hT (B := tkB (A 1) (A 0 1) (A 0 46)) (p := A 0 46) rfl h2 (fun A' hR' hF' hc => ⟨A', rfl, rfl, hR', hF', hc⟩) (A 0 1 - A 0 46).toNat A (by omega) h0 hR Fr.rf rfl
