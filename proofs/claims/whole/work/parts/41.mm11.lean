/-! READING A SETT: t the tape, n its size -/
abbrev dg (t : Int → Int) (n l p : Int) : Prop := p < n ∧ 48 + l ≤ t p ∧ t p ≤ 57
def nd (t : Int → Int) (n p : Int) : Int := if ¬ dg t n 1 p then 0 else if ¬ dg t n 0 (p + 1) then 1 else if ¬ dg t n 0 (p + 2) then 2 else 3
/-- the value of the first m digits -/
def dv (t : Int → Int) (p : Int) : Nat → Int
  | 0 => 0
  | m + 1 => 10 * dv t p m + t (p + m) - 48
def cv (t : Int → Int) (n p : Int) : Int := dv t p (nd t n p).toNat
abbrev srOK (t : Int → Int) (n p : Int) : Prop := p < n ∧ 97 ≤ t p ∧ t p ≤ 104 ∧ dg t n 1 (p + 1)
def srF (t : Int → Int) (n p : Int) : Int := if p < n ∧ 97 ≤ t p ∧ t p ≤ 104 then p + 1 else p
def srE (t : Int → Int) (n p : Int) : Int := p + 1 + nd t n (p + 1)
def srq (t : Int → Int) (n : Int) : Nat → Int
  | 0 => 0
  | j + 1 => srE t n (srq t n j) + 1
abbrev srC (t : Int → Int) (n : Int) (k : Nat) : Prop := srOK t n (srq t n k) ∧ srE t n (srq t n k) < n ∧ t (srE t n (srq t n k)) = 32 ∧ k + 1 < 10
def srFault (t : Int → Int) (n : Int) (k : Nat) : Int := if ¬ srOK t n (srq t n k) then srF t n (srq t n k) else if srE t n (srq t n k) < n ∧ (t (srE t n (srq t n k)) = 47 ∨ t (srE t n (srq t n k)) = 59) then (if srE t n (srq t n k) + 1 = n then -1 else srE t n (srq t n k) + 1) else srE t n (srq t n k)
/-- the last stripe that is read -/
def srK (t : Int → Int) (n : Int) (k : Nat) : Prop := (∀ j, j < k → srC t n j) ∧ ¬ srC t n k
theorem srK_u {t : Int → Int} {n : Int} {k k' : Nat} (h : srK t n k) (h' : srK t n k') : k = k' := by
  apply Classical.byContradiction
  intro q
  rcases Nat.lt_or_ge k k' with c | c
  · exact h.2 (h'.1 k c)
  · exact h'.2 (h.1 k' (by omega))
theorem nd_b {t : Int → Int} {n p : Int} : 0 ≤ nd t n p ∧ nd t n p ≤ 3 := by
  unfold nd; (repeat' split) <;> omega
theorem nd_n {t : Int → Int} {n p : Int} (h : p ≤ n) : p + nd t n p ≤ n := by
  unfold nd; (repeat' split) <;> omega
theorem dv_b {t : Int → Int} {p : Int} : ∀ m : Nat, m ≤ 3 → (∀ i : Nat, i < m → 48 ≤ t (p + i) ∧ t (p + i) ≤ 57) → 0 ≤ dv t p m ∧ (m = 0 → dv t p m ≤ 0) ∧ (m = 1 → dv t p m ≤ 9) ∧ (m = 2 → dv t p m ≤ 99) ∧ (m = 3 → dv t p m ≤ 999)
  | 0, _, _ => by simp [dv]
  | m + 1, hm, h => by
    have h1 := dv_b m (by omega) (fun i hi => h i (by omega))
    have h2 := h m (by omega)
    have e : dv t p (m + 1) = 10 * dv t p m + t (p + m) - 48 := rfl
    omega
theorem V132_0 {d : Nat} (hd : 1 ≤ d) {Q : Option Value → xM → Prop} {m : Nat} {Φ : (Nat → Nat → Int32) → xM} (hΦ : MLaw m Φ) {A : Nat → Int → Int} (hR : RG A) {x1 : Int} (rr : Rg x1) (h : ((((A 0 46) = (A 0 1)) → Q (some (.int (iz 0))) (Φ (mI A))) ∧ (¬ ((A 0 46) = (A 0 1)) → (0 ≤ (A 0 46) ∧ (A 0 46) < 160) ∧ ((((A 1 (A 0 46)) < 97) → Q (some (.int (iz 0))) (Φ (mI A))) ∧ (¬ ((A 1 (A 0 46)) < 97) → ((((A 1 (A 0 46)) ≤ 104) → (Rg (10 * x1)) ∧ (0 ≤ x1 ∧ x1 < 5) ∧ (Rg ((10 * x1) + (A 2 x1))) ∧ (Rg ((A 1 (A 0 46)) - 97)) ∧ (0 ≤ ((10 * x1) + (A 2 x1)) ∧ ((10 * x1) + (A 2 x1)) < 50) ∧ (Rg ((A 0 46) + 1)) ∧ (0 ≤ ((A 0 46) + 1)) ∧ ((A 0 1) ≤ 160) ∧ (0 ≤ (1 : Int) ∧ (1 : Int) ≤ 1) ∧ ((¬ (((A 0 46) + 1) < (A 0 1) ∧ 48 + 1 ≤ (A 1 ((A 0 46) + 1)) ∧ (A 1 ((A 0 46) + 1)) ≤ 57) → Q (some (.int (iz 0))) (Φ (mI (UA (UA A 4 ((10 * x1) + (A 2 x1)) ((A 1 (A 0 46)) - 97)) 0 46 ((A 0 46) + 1))))) ∧ ((((A 0 46) + 1) < (A 0 1) ∧ 48 + 1 ≤ (A 1 ((A 0 46) + 1)) ∧ (A 1 ((A 0 46) + 1)) ≤ 57) → wpE (xT 132) (xev xT d) Q (96, [(0, .ref m), (1, .int (iz x1)), (2, .int (iz ((10 * x1) + (A 2 x1)))), (3, .int (iz 0)), (4, .int (iz 0))], [], Φ (mI (UA (UA A 4 ((10 * x1) + (A 2 x1)) ((A 1 (A 0 46)) - 97)) 0 46 ((A 0 46) + 1))))))) ∧ (¬ ((A 1 (A 0 46)) ≤ 104) → Q (some (.int (iz 0))) (Φ (mI A))))))))) : wpE (xT 132) (xev xT d) Q (0, [(0, .ref m), (1, .int (iz x1))], [], Φ (mI A)) := by
  refine p_ald (cc3 c132_0) rfl ?_
  refine n_geti hΦ (v := A 0 46) (cc3 c132_1) (ji := 46) rfl rfl ?_
  refine p_ald (cc3 c132_4) rfl ?_
  refine n_geti hΦ (v := A 0 1) (cc3 c132_5) (ji := 1) rfl rfl ?_
  refine i_icmp (c' := (A 0 46) = (A 0 1)) (cc3 c132_8) (iz_inj (hR 0 46) (hR 0 1)) (fun c => ?_) (fun c => ?_)
  · have h := h.1 c
    refine p_lc (ls' := []) c132_39 rfl rfl ?_
    refine i_push (n := 0) (cct c132_39 rfl) zl_0 ?_
    exact i_ri (cc3 c132_40) (by decide) h
  · have h := h.2 c
    refine p_ald (cc3 c132_11) rfl ?_
    refine pm_getp hΦ (cc3 c132_12) (c := 1) rfl (by decide) ?_
    refine p_ald (cc3 c132_15) rfl ?_
    refine n_geti hΦ (v := A 0 46) (cc3 c132_16) (ji := 46) rfl rfl ?_
    obtain ⟨g1, h⟩ := h
    refine n_aldi hΦ (c := 1) (n := 160) (ni := 160) (cc3 c132_19) (by decide) rfl rfl rfl (by decide) g1 (v := A 1 (A 0 46)) rfl ?_
    refine i_push (n := 97) (cc3 c132_20) zl_97 ?_
    refine i_icmp (c' := (A 1 (A 0 46)) < 97) (cc3 c132_22) (iz_lt (hR 1 (A 0 46)) (by decide)) (fun c => ?_) (fun c => ?_)
    · have h := h.1 c
      refine p_lc (ls' := []) c132_39 rfl rfl ?_
      refine i_push (n := 0) (cct c132_39 rfl) zl_0 ?_
      exact i_ri (cc3 c132_40) (by decide) h
    · have h := h.2 c
      refine p_ald (cc3 c132_25) rfl ?_
      refine pm_getp hΦ (cc3 c132_26) (c := 1) rfl (by decide) ?_
      refine p_ald (cc3 c132_29) rfl ?_
      refine n_geti hΦ (v := A 0 46) (cc3 c132_30) (ji := 46) rfl rfl ?_
      refine n_aldi hΦ (c := 1) (n := 160) (ni := 160) (cc3 c132_33) (by decide) rfl rfl rfl (by decide) g1 (v := A 1 (A 0 46)) rfl ?_
      refine i_push (n := 104) (cc3 c132_34) zl_104 ?_
      refine i_icmp (c' := (A 1 (A 0 46)) ≤ 104) (cc3 c132_36) (iz_le (hR 1 (A 0 46)) (by decide)) (fun c => ?_) (fun c => ?_)
      · have h := h.1 c
        refine i_push (n := 10) (cc3 c132_41) zl_10 ?_
        refine p_ild (cc3 c132_43) rfl ?_
        obtain ⟨g2, h⟩ := h
        refine (fun _ : Rg (10 * x1) => i_mul (cc3 c132_44) ?_) g2
        refine p_ald (cc3 c132_45) rfl ?_
        refine pm_getp hΦ (cc3 c132_46) (c := 2) rfl (by decide) ?_
        refine p_ild (cc3 c132_49) rfl ?_
        obtain ⟨g3, h⟩ := h
        refine n_aldi hΦ (c := 2) (n := 5) (ni := 5) (cc3 c132_50) (by decide) rfl rfl rfl (by decide) g3 (v := A 2 x1) rfl ?_
        obtain ⟨g4, h⟩ := h
        refine (fun _ : Rg ((10 * x1) + (A 2 x1)) => i_add (cc3 c132_51) ?_) g4
        refine p_ist (ls' := [(2, .int (iz ((10 * x1) + (A 2 x1)))), (0, .ref m), (1, .int (iz x1))]) (cc3 c132_52) (by decide) rfl ?_
        refine p_ald (cc3 c132_53) rfl ?_
        refine pm_getp hΦ (cc3 c132_54) (c := 4) rfl (by decide) ?_
        refine p_ild (cc3 c132_57) rfl ?_
        refine p_ald (cc3 c132_58) rfl ?_
        refine pm_getp hΦ (cc3 c132_59) (c := 1) rfl (by decide) ?_
        refine p_ald (cc3 c132_62) rfl ?_
        refine n_geti hΦ (v := A 0 46) (cc3 c132_63) (ji := 46) rfl rfl ?_
        refine n_aldi hΦ (c := 1) (n := 160) (ni := 160) (cc3 c132_66) (by decide) rfl rfl rfl (by decide) g1 (v := A 1 (A 0 46)) rfl ?_
        refine i_push (n := 97) (cc3 c132_67) zl_97 ?_
        obtain ⟨g5, h⟩ := h
        refine (fun _ : Rg ((A 1 (A 0 46)) - 97) => i_sub (cc3 c132_69) ?_) g5
        obtain ⟨g6, h⟩ := h
        refine id (α := Rg ((A 1 (A 0 46)) - 97) → _) (fun _ => ?_) g5; refine n_asti hΦ (c := 4) (n := 50) (ni := 50) (hv := rfl) (cc3 c132_70) (by decide) rfl rfl rfl (by decide) g6 ?_
        refine p_ald (cc3 c132_71) rfl ?_
        refine p_dup (cc3 c132_72) rfl ?_
        refine n_geti hΦ (v := A 0 46) (cc3 c132_73) (ji := 46) rfl rfl ?_
        refine i_push (n := 1) (cc3 c132_76) zl_1 ?_
        obtain ⟨g7, h⟩ := h
        refine (fun _ : Rg ((A 0 46) + 1) => i_add (cc3 c132_77) ?_) g7
        refine (fun _ : Rg ((A 0 46) + 1) => n_puti hΦ (cc3 c132_78) (ji := 46) rfl ?_) g7
        refine p_ald (cc3 c132_81) rfl ?_
        refine i_push (n := 1) (cc3 c132_82) zl_1 ?_
        obtain ⟨g8, h⟩ := h
        obtain ⟨g9, h⟩ := h
        obtain ⟨g10, h⟩ := h
        refine p_callV (cc3 c132_83) (Nat.le_of_ble_eq_true rfl) rfl rfl (Nat.le_of_ble_eq_true rfl) (ml_kd hΦ) (S133 (Nat.le_trans (by decide) hd) hΦ (rg_UA (rg_UA hR g5) g7) (by decide) ⟨g8, g9, g10⟩) ?_
        refine i_ifB (cc3 c132_86) (fun c => ?_) (fun c => ?_)
        · have h := h.1 c
          refine i_push (n := 0) (cc3 c132_89) zl_0 ?_
          exact i_ri (cc3 c132_90) (by decide) h
        · have h := h.2 c
          refine i_push (n := 0) (cc3 c132_91) zl_0 ?_
          refine p_ist (ls' := [(3, .int (iz 0)), (2, .int (iz ((10 * x1) + (A 2 x1)))), (0, .ref m), (1, .int (iz x1))]) (cc3 c132_92) (by decide) rfl ?_
          refine i_push (n := 0) (cc3 c132_93) zl_0 ?_
          refine p_ist (ls' := [(4, .int (iz 0)), (3, .int (iz 0)), (2, .int (iz ((10 * x1) + (A 2 x1)))), (0, .ref m), (1, .int (iz x1))]) (cc3 c132_94) (by decide) rfl ?_
          exact p_lc (ls' := [(0, .ref m), (1, .int (iz x1)), (2, .int (iz ((10 * x1) + (A 2 x1)))), (3, .int (iz 0)), (4, .int (iz 0))]) c132_96 rfl rfl h
      · have h := h.2 c
        refine p_lc (ls' := []) c132_39 rfl rfl ?_
        refine i_push (n := 0) (cct c132_39 rfl) zl_0 ?_
        exact i_ri (cc3 c132_40) (by decide) h
theorem V132_96 {d : Nat} (hd : 1 ≤ d) {Q : Option Value → xM → Prop} {m : Nat} {Φ : (Nat → Nat → Int32) → xM} (hΦ : MLaw m Φ) {A : Nat → Int → Int} (hR : RG A) {x1 x2 x3 x4 : Int} (rr : Rg x1 ∧ Rg x2 ∧ Rg x3 ∧ Rg x4) (h : (((3 ≤ x4) → (0 ≤ x2 ∧ x2 < 50) ∧ (0 ≤ x1 ∧ x1 < 5) ∧ (Rg ((A 2 x1) + 1)) ∧ Q (some (.int (iz 1))) (Φ (mI (UA (UA A 5 x2 x3) 2 x1 ((A 2 x1) + 1))))) ∧ (¬ (3 ≤ x4) → (0 ≤ A 0 46) ∧ (A 0 1 ≤ 160) ∧ (0 ≤ (0 : Int) ∧ (0 : Int) ≤ 1) ∧ ((¬ (A 0 46 < A 0 1 ∧ 48 + 0 ≤ A 1 (A 0 46) ∧ A 1 (A 0 46) ≤ 57) → (0 ≤ x2 ∧ x2 < 50) ∧ (0 ≤ x1 ∧ x1 < 5) ∧ (Rg ((A 2 x1) + 1)) ∧ Q (some (.int (iz 1))) (Φ (mI (UA (UA A 5 x2 x3) 2 x1 ((A 2 x1) + 1))))) ∧ ((A 0 46 < A 0 1 ∧ 48 + 0 ≤ A 1 (A 0 46) ∧ A 1 (A 0 46) ≤ 57) → (Rg (10 * x3)) ∧ (0 ≤ (A 0 46) ∧ (A 0 46) < 160) ∧ (Rg ((10 * x3) + (A 1 (A 0 46)))) ∧ (Rg (((10 * x3) + (A 1 (A 0 46))) - 48)) ∧ (Rg ((A 0 46) + 1)) ∧ (Rg (x4 + 1)) ∧ wpE (xT 132) (xev xT d) Q (96, [(0, .ref m), (1, .int (iz x1)), (2, .int (iz x2)), (3, .int (iz (((10 * x3) + (A 1 (A 0 46))) - 48))), (4, .int (iz (x4 + 1)))], [], Φ (mI (UA A 0 46 ((A 0 46) + 1))))))))) : wpE (xT 132) (xev xT d) Q (96, [(0, .ref m), (1, .int (iz x1)), (2, .int (iz x2)), (3, .int (iz x3)), (4, .int (iz x4))], [], Φ (mI A)) := by
  refine p_ild (cct c132_96 rfl) rfl ?_
  refine i_push (n := 3) (cc3 c132_98) zl_3 ?_
  refine i_icmp (c' := 3 ≤ x4) (cc3 c132_99) (iz_le (by decide) rr.2.2.2) (fun c => ?_) (fun c => ?_)
  · have h := h.1 c
    refine p_lc (ls' := [(0, .ref m), (1, .int (iz x1)), (2, .int (iz x2)), (3, .int (iz x3))]) c132_144 rfl rfl ?_
    refine p_ald (cct c132_144 rfl) rfl ?_
    refine pm_getp hΦ (cc3 c132_145) (c := 5) rfl (by decide) ?_
    refine p_ild (cc3 c132_148) rfl ?_
    refine p_ild (cc3 c132_149) rfl ?_
    obtain ⟨g1, h⟩ := h
    refine id (α := Rg x3 → _) (fun _ => ?_) rr.2.2.1; refine n_asti hΦ (c := 5) (n := 50) (ni := 50) (hv := rfl) (cc3 c132_150) (by decide) rfl rfl rfl (by decide) g1 ?_
    refine p_ald (cc3 c132_151) rfl ?_
    refine pm_getp hΦ (cc3 c132_152) (c := 2) rfl (by decide) ?_
    refine p_ild (cc3 c132_155) rfl ?_
    refine p_dup2 (cc3 c132_156) rfl rfl ?_
    obtain ⟨g2, h⟩ := h
    refine n_aldi hΦ (c := 2) (n := 5) (ni := 5) (cc3 c132_157) (by decide) rfl rfl rfl (by decide) g2 (v := A 2 x1) (by first | rfl | exact UA_eq | simp [UA]) ?_
    refine i_push (n := 1) (cc3 c132_158) zl_1 ?_
    obtain ⟨g3, h⟩ := h
    refine (fun _ : Rg ((A 2 x1) + 1) => i_add (cc3 c132_159) ?_) g3
    refine id (α := Rg ((A 2 x1) + 1) → _) (fun _ => ?_) g3; refine n_asti hΦ (c := 2) (n := 5) (ni := 5) (hv := rfl) (cc3 c132_160) (by decide) rfl rfl rfl (by decide) g2 ?_
    refine i_push (n := 1) (cc3 c132_161) zl_1 ?_
    exact i_ri (cc3 c132_162) (by decide) h
  · have h := h.2 c
    refine p_ald (cc3 c132_102) rfl ?_
    refine i_push (n := 0) (cc3 c132_103) zl_0 ?_
    obtain ⟨g1, h⟩ := h
    obtain ⟨g2, h⟩ := h
    obtain ⟨g3, h⟩ := h
    refine p_callV (cc3 c132_104) (Nat.le_of_ble_eq_true rfl) rfl rfl (Nat.le_of_ble_eq_true rfl) (ml_kd hΦ) (S133 (Nat.le_trans (by decide) hd) hΦ hR (by decide) ⟨g1, g2, g3⟩) ?_
    refine i_ifB (cc3 c132_107) (fun c => ?_) (fun c => ?_)
    · have h := h.1 c
      refine p_lc (ls' := [(0, .ref m), (1, .int (iz x1)), (2, .int (iz x2)), (3, .int (iz x3))]) c132_144 rfl rfl ?_
      refine p_ald (cct c132_144 rfl) rfl ?_
      refine pm_getp hΦ (cc3 c132_145) (c := 5) rfl (by decide) ?_
      refine p_ild (cc3 c132_148) rfl ?_
      refine p_ild (cc3 c132_149) rfl ?_
      obtain ⟨g4, h⟩ := h
      refine id (α := Rg x3 → _) (fun _ => ?_) rr.2.2.1; refine n_asti hΦ (c := 5) (n := 50) (ni := 50) (hv := rfl) (cc3 c132_150) (by decide) rfl rfl rfl (by decide) g4 ?_
      refine p_ald (cc3 c132_151) rfl ?_
      refine pm_getp hΦ (cc3 c132_152) (c := 2) rfl (by decide) ?_
      refine p_ild (cc3 c132_155) rfl ?_
      refine p_dup2 (cc3 c132_156) rfl rfl ?_
      obtain ⟨g5, h⟩ := h
      refine n_aldi hΦ (c := 2) (n := 5) (ni := 5) (cc3 c132_157) (by decide) rfl rfl rfl (by decide) g5 (v := A 2 x1) (by first | rfl | exact UA_eq | simp [UA]) ?_
      refine i_push (n := 1) (cc3 c132_158) zl_1 ?_
      obtain ⟨g6, h⟩ := h
      refine (fun _ : Rg ((A 2 x1) + 1) => i_add (cc3 c132_159) ?_) g6
      refine id (α := Rg ((A 2 x1) + 1) → _) (fun _ => ?_) g6; refine n_asti hΦ (c := 2) (n := 5) (ni := 5) (hv := rfl) (cc3 c132_160) (by decide) rfl rfl rfl (by decide) g5 ?_
      refine i_push (n := 1) (cc3 c132_161) zl_1 ?_
      exact i_ri (cc3 c132_162) (by decide) h
    · have h := h.2 c
      refine i_push (n := 10) (cc3 c132_110) zl_10 ?_
      refine p_ild (cc3 c132_112) rfl ?_
      obtain ⟨g4, h⟩ := h
      refine (fun _ : Rg (10 * x3) => i_mul (cc3 c132_113) ?_) g4
      refine p_ald (cc3 c132_114) rfl ?_
      refine pm_getp hΦ (cc3 c132_115) (c := 1) rfl (by decide) ?_
      refine p_ald (cc3 c132_118) rfl ?_
      refine n_geti hΦ (v := A 0 46) (cc3 c132_119) (ji := 46) rfl rfl ?_
      obtain ⟨g5, h⟩ := h
      refine n_aldi hΦ (c := 1) (n := 160) (ni := 160) (cc3 c132_122) (by decide) rfl rfl rfl (by decide) g5 (v := A 1 (A 0 46)) rfl ?_
      obtain ⟨g6, h⟩ := h
      refine (fun _ : Rg ((10 * x3) + (A 1 (A 0 46))) => i_add (cc3 c132_123) ?_) g6
      refine i_push (n := 48) (cc3 c132_124) zl_48 ?_
      obtain ⟨g7, h⟩ := h
      refine (fun _ : Rg (((10 * x3) + (A 1 (A 0 46))) - 48) => i_sub (cc3 c132_126) ?_) g7
      refine p_ist (ls' := [(3, .int (iz (((10 * x3) + (A 1 (A 0 46))) - 48))), (0, .ref m), (1, .int (iz x1)), (2, .int (iz x2)), (4, .int (iz x4))]) (cc3 c132_127) (by decide) rfl ?_
      refine p_ald (cc3 c132_128) rfl ?_
      refine p_dup (cc3 c132_129) rfl ?_
      refine n_geti hΦ (v := A 0 46) (cc3 c132_130) (ji := 46) rfl rfl ?_
      refine i_push (n := 1) (cc3 c132_133) zl_1 ?_
      obtain ⟨g8, h⟩ := h
      refine (fun _ : Rg ((A 0 46) + 1) => i_add (cc3 c132_134) ?_) g8
      refine (fun _ : Rg ((A 0 46) + 1) => n_puti hΦ (cc3 c132_135) (ji := 46) rfl ?_) g8
      obtain ⟨g9, h⟩ := h
      refine (fun _ : Rg (x4 + 1) => i_iinc (n := 1) (y := x4 + 1) (ls' := [(4, .int (iz (x4 + 1))), (3, .int (iz (((10 * x3) + (A 1 (A 0 46))) - 48))), (0, .ref m), (1, .int (iz x1)), (2, .int (iz x2))]) (cc3 c132_138) (by decide) rfl zl_1 (by first | rfl | omega) rfl ?_) g9
      refine p_goto (cc3 c132_141) ?_
      exact p_lc (ls' := [(0, .ref m), (1, .int (iz x1)), (2, .int (iz x2)), (3, .int (iz (((10 * x3) + (A 1 (A 0 46))) - 48))), (4, .int (iz (x4 + 1)))]) c132_96 rfl rfl h

theorem L132 {d : Nat} (hd : 1 ≤ d) {Q : Option Value → xM → Prop} {m : Nat} {Φ : (Nat → Nat → Int32) → xM} (hΦ : MLaw m Φ) {A0 : Nat → Int → Int} {s p x : Int} (hs : 0 ≤ s ∧ s < 5) (h2 : 0 ≤ A0 2 s ∧ A0 2 s ≤ 9) (hp : 0 ≤ p ∧ p ≤ A0 0 1) (hn : A0 0 1 ≤ 160) (hx : x = 10 * s + A0 2 s) (h1 : dg (A0 1) (A0 0 1) 1 p)
    (hQ : ∀ A', RG A' → Fr [2, 5] [46] A0 A' → A' 0 46 = p + nd (A0 1) (A0 0 1) p → (∀ i, ¬ i = s → A' 2 i = A0 2 i) → A' 2 s = A0 2 s + 1 → (∀ i, ¬ i = x → A' 5 i = A0 5 i) → A' 5 x = cv (A0 1) (A0 0 1) p → Q (some (.int (iz 1))) (Φ (mI A'))) :
    ∀ (r k : Nat) (A : Nat → Int → Int), k + r = 3 → RG A → Fr [] [46] A0 A → A 0 46 = p + k → (k : Int) ≤ nd (A0 1) (A0 0 1) p → wpE (xT 132) (xev xT d) Q (96, [(0, .ref m), (1, .int (iz s)), (2, .int (iz x)), (3, .int (iz (dv (A0 1) p k))), (4, .int (iz k))], [], Φ (mI A)) := by
  have ndb := nd_b (t := A0 1) (n := A0 0 1) (p := p)
  have hdg : ∀ i : Nat, (i : Int) < nd (A0 1) (A0 0 1) p → p + i < A0 0 1 ∧ 48 ≤ A0 1 (p + i) ∧ A0 1 (p + i) ≤ 57 := fun i hi => by
    unfold nd at hi
    (repeat' split at hi) <;> first | omega | skip
    · rw [show (i : Int) = 0 by omega, Int.add_zero]; omega
    · rcases (show i = 0 ∨ i = 1 by omega) with e | e <;> subst e <;> simp <;> omega
    · rcases (show i = 0 ∨ i = 1 ∨ i = 2 by omega) with e | e | e <;> subst e <;> simp <;> omega
  have hdb : ∀ k : Nat, (k : Int) ≤ nd (A0 1) (A0 0 1) p → 0 ≤ dv (A0 1) p k ∧ dv (A0 1) p k ≤ 999 := fun k hk => by
    have := dv_b (t := A0 1) (p := p) k (by omega) (fun i hi => (hdg i (by omega)).2)
    omega
  have hend : ∀ (k : Nat) (A : Nat → Int → Int), RG A → Fr [] [46] A0 A → A 0 46 = p + k → (k : Int) = nd (A0 1) (A0 0 1) p → Q (some (.int (iz 1))) (Φ (mI (UA (UA A 5 x (dv (A0 1) p k)) 2 s (A 2 s + 1)))) := fun k A hR hF h46 hk => by
    have e2 : A 2 = A0 2 := hF.1 2 (by decide) (by decide)
    have e5 : A 5 = A0 5 := hF.1 5 (by decide) (by decide)
    have db := hdb k (by omega)
    refine hQ _ (rg_UA (rg_UA hR (by omega)) (by rw [e2]; omega)) ((hF.mono (by simp) (fun j h => h)).row (by decide) (by decide) |>.row (by decide) (by decide)) ?_ (fun i hi => ?_) ?_ (fun i hi => ?_) ?_
    · rw [UA_c (by decide), UA_c (by decide), h46, hk]
    · rw [UA_j hi, UA_c (by decide), e2]
    · rw [UA_eq, e2]
    · rw [UA_c (by decide), UA_j hi, e5]
    · rw [UA_c (by decide), UA_eq]
      unfold cv
      rw [← hk]; rfl
  intro r
  induction r with
  | zero =>
    intro k A hk hR hF h46 hn3
    have db := hdb k (by omega)
    have e2 : A 2 = A0 2 := hF.1 2 (by decide) (by decide)
    refine V132_96 hd hΦ hR (by omega) ?_
    exact ⟨fun _ => ⟨by omega, by omega, by rw [e2]; omega, hend k A hR hF h46 (by omega)⟩, fun h => absurd (show (3 : Int) ≤ k by omega) h⟩
  | succ r ih =>
    intro k A hk hR hF h46 hn3
    have db := hdb k (by omega)
    have e1 : A 1 = A0 1 := hF.1 1 (by decide) (by decide)
    have e2 : A 2 = A0 2 := hF.1 2 (by decide) (by decide)
    have e01 : A 0 1 = A0 0 1 := hF.2 1 (by decide)
    refine V132_96 hd hΦ hR (by omega) ?_
    rw [h46, e1, e01]
    refine ⟨fun h => absurd h (by omega), fun _ => ⟨by omega, by omega, by omega, fun c => ⟨by omega, by omega, by rw [e2]; omega, hend k A hR hF h46 ?_⟩, fun c => ⟨by omega, by omega, by omega, by omega, by omega, by omega, ?_⟩⟩⟩
    · unfold nd at hn3 ⊢
      rcases (show k = 0 ∨ k = 1 ∨ k = 2 by omega) with e | e | e <;> subst e <;> simp at c hn3 ⊢ <;> (repeat' split at hn3) <;> (repeat' split) <;> first | omega | (exfalso; omega) | skip
    · have hk1 : ((k + 1 : Nat) : Int) ≤ nd (A0 1) (A0 0 1) p := by
        unfold nd at hn3 ⊢
        rcases (show k = 0 ∨ k = 1 ∨ k = 2 by omega) with e | e | e <;> subst e <;> simp at c hn3 ⊢ <;> (repeat' split at hn3) <;> (repeat' split) <;> first | omega | (exfalso; omega) | skip
      exact ih (k + 1) _ (by omega) (rg_UA hR (by omega)) (hF.fld (by decide)) (by rw [UA_eq]; omega) hk1
theorem S132 {d : Nat} (hd : 2 ≤ d) {m : Nat} {Φ : (Nat → Nat → Int32) → xM} (hΦ : MLaw m Φ) {A : Nat → Int → Int} (hR : RG A) {x1 : Int} (rr : Rg x1) (hp : (0 ≤ x1 ∧ x1 < 5) ∧ (0 ≤ A 2 x1 ∧ A 2 x1 ≤ 9) ∧ (0 ≤ A 0 46 ∧ A 0 46 ≤ A 0 1) ∧ (A 0 1 ≤ 160)) : ∃ (r : Int) (A' : Nat → Int → Int), xev xT d 132 [.ref m, .int (iz x1)] (Φ (mI A)) (some (.int (iz r))) (Φ (mI A')) ∧ Rg r ∧ RG A' ∧ ((srOK (A 1) (A 0 1) (A 0 46) → r = 1 ∧ A' 0 46 = srE (A 1) (A 0 1) (A 0 46) ∧ Fr [2, 4, 5] [46] A A' ∧ (∀ i, ¬ i = x1 → A' 2 i = A 2 i) ∧ A' 2 x1 = A 2 x1 + 1 ∧ (∀ i, ¬ i = 10 * x1 + A 2 x1 → A' 4 i = A 4 i ∧ A' 5 i = A 5 i) ∧ A' 4 (10 * x1 + A 2 x1) = A 1 (A 0 46) - 97 ∧ A' 5 (10 * x1 + A 2 x1) = cv (A 1) (A 0 1) (A 0 46 + 1)) ∧ (¬ srOK (A 1) (A 0 1) (A 0 46) → r = 0 ∧ A' 0 46 = srF (A 1) (A 0 1) (A 0 46) ∧ Fr [4] [46] A A' ∧ ∀ i, ¬ i = 10 * x1 + A 2 x1 → A' 4 i = A 4 i)) := by
  refine xev_g (i := 132) (as := [.ref m, .int (iz x1)]) (σ := Φ (mI A)) (Q := fun r_ σ_ => ∃ (r : Int) (A' : Nat → Int → Int), r_ = (some (.int (iz r))) ∧ σ_ = Φ (mI A') ∧ Rg r ∧ RG A' ∧ ((srOK (A 1) (A 0 1) (A 0 46) → r = 1 ∧ A' 0 46 = srE (A 1) (A 0 1) (A 0 46) ∧ Fr [2, 4, 5] [46] A A' ∧ (∀ i, ¬ i = x1 → A' 2 i = A 2 i) ∧ A' 2 x1 = A 2 x1 + 1 ∧ (∀ i, ¬ i = 10 * x1 + A 2 x1 → A' 4 i = A 4 i ∧ A' 5 i = A 5 i) ∧ A' 4 (10 * x1 + A 2 x1) = A 1 (A 0 46) - 97 ∧ A' 5 (10 * x1 + A 2 x1) = cv (A 1) (A 0 1) (A 0 46 + 1)) ∧ (¬ srOK (A 1) (A 0 1) (A 0 46) → r = 0 ∧ A' 0 46 = srF (A 1) (A 0 1) (A 0 46) ∧ Fr [4] [46] A A' ∧ ∀ i, ¬ i = 10 * x1 + A 2 x1 → A' 4 i = A 4 i))) (D := 1) hd (Nat.le_of_ble_eq_true rfl) (fun r_ σ_ he hq => ?_) (fun d hd => V132_0 hd hΦ hR rr ?_)
  · obtain ⟨r, A', rfl, rfl, hq⟩ := hq
    exact ⟨r, A', he, hq⟩

  obtain ⟨h1, h2, h3, h4⟩ := hp
  have tb := hR 1 (A 0 46)
  have hno : ∀ A', RG A' → Fr [4] [46] A A' → (∀ i, ¬ i = 10 * x1 + A 2 x1 → A' 4 i = A 4 i) → ¬ srOK (A 1) (A 0 1) (A 0 46) → A' 0 46 = srF (A 1) (A 0 1) (A 0 46) → ∃ (r : Int) (A'' : Nat → Int → Int), some (Value.int (iz 0)) = some (Value.int (iz r)) ∧ Φ (mI A') = Φ (mI A'') ∧ Rg r ∧ RG A'' ∧ ((srOK (A 1) (A 0 1) (A 0 46) → r = 1 ∧ A'' 0 46 = srE (A 1) (A 0 1) (A 0 46) ∧ Fr [2, 4, 5] [46] A A'' ∧ (∀ i, ¬ i = x1 → A'' 2 i = A 2 i) ∧ A'' 2 x1 = A 2 x1 + 1 ∧ (∀ i, ¬ i = 10 * x1 + A 2 x1 → A'' 4 i = A 4 i ∧ A'' 5 i = A 5 i) ∧ A'' 4 (10 * x1 + A 2 x1) = A 1 (A 0 46) - 97 ∧ A'' 5 (10 * x1 + A 2 x1) = cv (A 1) (A 0 1) (A 0 46 + 1)) ∧ (¬ srOK (A 1) (A 0 1) (A 0 46) → r = 0 ∧ A'' 0 46 = srF (A 1) (A 0 1) (A 0 46) ∧ Fr [4] [46] A A'' ∧ ∀ i, ¬ i = 10 * x1 + A 2 x1 → A'' 4 i = A 4 i)) := fun A' hR' hF' h4' hn h46 => ⟨0, A', rfl, rfl, by decide, hR', fun q => absurd q hn, fun _ => ⟨rfl, h46, hF', h4'⟩⟩
  refine ⟨fun c => ?_, fun c => ⟨by omega, fun c2 => ?_, fun c2 => ⟨fun c3 => ⟨by omega, by omega, by omega, by omega, by omega, by omega, by omega, by omega, by omega, fun c4 => ?_, fun c4 => ?_⟩, fun c3 => ?_⟩⟩⟩
  · exact hno A hR Fr.rf (fun _ _ => rfl) (by omega) (by unfold srF; rw [if_neg (by omega)])
  · exact hno A hR Fr.rf (fun _ _ => rfl) (by omega) (by unfold srF; rw [if_neg (by omega)])
  · refine hno _ (rg_UA (rg_UA hR (by omega)) (by omega)) ((Fr.rf.row (by decide) (by decide)).fld (by decide)) (fun i hi => by rw [UA_c (by decide), UA_j hi]) (by omega) ?_
    rw [UA_eq]; unfold srF; rw [if_pos (by omega)]
  · have hok : srOK (A 1) (A 0 1) (A 0 46) := ⟨by omega, by omega, by omega, c4⟩
    have e4 : Fr [2, 4, 5] [46] A (UA A 4 (10 * x1 + A 2 x1) (A 1 (A 0 46) - 97)) := Fr.rf.row (by decide) (by decide)
    refine L132 hd hΦ (A0 := UA A 4 (10 * x1 + A 2 x1) (A 1 (A 0 46) - 97)) (p := A 0 46 + 1) h1 h2 (by constructor <;> first | omega | (show A 0 46 + 1 ≤ A 0 1; omega)) h4 rfl c4 (fun A' hR' hF' q1 q2 q3 q4 q5 => ?_) 3 0 _ rfl (rg_UA (rg_UA hR (by omega)) (by omega)) (Fr.rf.fld (by decide)) (by rw [UA_eq]; omega) nd_b.1
    refine ⟨1, A', rfl, rfl, by decide, hR', fun _ => ⟨rfl, q1, e4.tr (hF'.mono (fun c h => by revert h; simp; omega) (fun j h => h)), q2, q3, fun i hi => ⟨?_, q4 i hi⟩, ?_, q5⟩, fun q => absurd hok q⟩
    · rw [hF'.1 4 (by decide) (by decide), UA_j hi]
    · rw [hF'.1 4 (by decide) (by decide), UA_eq]
  · exact hno A hR Fr.rf (fun _ _ => rfl) (by omega) (by unfold srF; rw [if_neg (by omega)])
