/-- the least depth by which the least USED is reached -/
def ypk (A : Nat → Int → Int) (k b s p x : Int) : Int := if yf A k b s p x 1 = gM (yf A k b s p x) 4 then 1 else if yf A k b s p x 2 = gM (yf A k b s p x) 4 then 2 else if yf A k b s p x 3 = gM (yf A k b s p x) 4 then 3 else 4
def yxs (A : Nat → Int → Int) (k b s x0 : Int) : Nat → Int
  | 0 => x0
  | p + 1 => yxs A k b s x0 p + yst A k (A 3 s) p (ypk A k b s p (yxs A k b s x0 p))
theorem gM_ex {f : Int → Int} : ∀ m : Nat, gM f m < 1000000 → ∃ i : Nat, 1 ≤ i ∧ i ≤ m ∧ f i = gM f m
  | 0, h => absurd h (by simp [gM])
  | m + 1, h => by
    unfold gM at h ⊢
    split at h
    · rename_i c; rw [if_pos c]; exact ⟨m + 1, by omega, Nat.le_refl _, rfl⟩
    · rename_i c; rw [if_neg c]
      obtain ⟨i, h1, h2, h3⟩ := gM_ex m h
      exact ⟨i, h1, by omega, h3⟩
theorem ypk_ok {A : Nat → Int → Int} {k b s p x : Int} (h : gM (yf A k b s p x) 4 < 1000000) : (1 ≤ ypk A k b s p x ∧ ypk A k b s p x ≤ 4) ∧ yf A k b s p x (ypk A k b s p x) = gM (yf A k b s p x) 4 ∧ ∀ m : Int, 1 ≤ m → m < ypk A k b s p x → ¬ yf A k b s p x m = gM (yf A k b s p x) 4 := by
  obtain ⟨i, h1, h2, h3⟩ := gM_ex 4 h
  unfold ypk
  by_cases c1 : yf A k b s p x 1 = gM (yf A k b s p x) 4
  · rw [if_pos c1]; exact ⟨by omega, c1, fun m q1 q2 => by omega⟩
  · rw [if_neg c1]
    by_cases c2 : yf A k b s p x 2 = gM (yf A k b s p x) 4
    · rw [if_pos c2]; exact ⟨by omega, c2, fun m q1 q2 => by rw [show m = 1 by omega]; exact c1⟩
    · rw [if_neg c2]
      by_cases c3 : yf A k b s p x 3 = gM (yf A k b s p x) 4
      · rw [if_pos c3]; exact ⟨by omega, c3, fun m q1 q2 => by
          rcases (show m = 1 ∨ m = 2 by omega) with e | e <;> rw [e]
          · exact c1
          · exact c2⟩
      · rw [if_neg c3]
        refine ⟨by omega, ?_, fun m q1 q2 => by
          rcases (show m = 1 ∨ m = 2 ∨ m = 3 by omega) with e | e | e <;> rw [e]
          · exact c1
          · exact c2
          · exact c3⟩
        rcases (show i = 1 ∨ i = 2 ∨ i = 3 ∨ i = 4 by omega) with e | e | e | e <;> rw [e] at h3
        · exact absurd h3 c1
        · exact absurd h3 c2
        · exact absurd h3 c3
        · exact h3
theorem yf_v {A : Nat → Int → Int} {k b s p x m : Int} (h : yf A k b s p x m < 1000000) : A 17 k < yst A k (A 3 s) p m ∧ yf A k b s p x m = yG A k b s (A 15 k - 2 - p).toNat (x + yst A k (A 3 s) p m) := by
  unfold yf at h ⊢
  split at h
  · rename_i c; rw [if_pos c]; exact ⟨c, rfl⟩
  · omega
theorem yG_lt {A : Nat → Int → Int} {k b s p x : Int} (hp : 0 ≤ p ∧ p ≤ A 15 k - 2) (h : yG A k b s (A 15 k - 1 - p).toNat x < 1000000) : yG A k b s (A 15 k - 1 - p).toNat x = gM (yf A k b s p x) 4 := by
  rw [yG_s hp] at h ⊢
  split at h
  · omega
  · rename_i c; rw [if_neg c]
    split at h
    · omega
    · rename_i c; rw [if_neg c]
theorem ypk_next {A : Nat → Int → Int} {k b s p x : Int} (hp : 0 ≤ p ∧ p ≤ A 15 k - 2) (h : yG A k b s (A 15 k - 1 - p).toNat x < 1000000) : (1 ≤ ypk A k b s p x ∧ ypk A k b s p x ≤ 4) ∧ A 17 k < yst A k (A 3 s) p (ypk A k b s p x) ∧ yG A k b s (A 15 k - 1 - (p + 1)).toNat (x + yst A k (A 3 s) p (ypk A k b s p x)) = yG A k b s (A 15 k - 1 - p).toNat x := by
  have e := yG_lt hp h
  rw [e] at h
  obtain ⟨h1, h2, h3⟩ := ypk_ok h
  obtain ⟨h4, h5⟩ := yf_v (by rw [h2]; exact h)
  refine ⟨h1, h4, ?_⟩
  rw [show A 15 k - 1 - (p + 1) = A 15 k - 2 - p by omega, ← h5, h2, e]
theorem yxs_ok {A : Nat → Int → Int} {k b s x0 : Int} (h : yG A k b s (A 15 k - 1).toNat x0 < 1000000) : ∀ p : Nat, (p : Int) ≤ A 15 k - 1 → yG A k b s (A 15 k - 1 - p).toNat (yxs A k b s x0 p) = yG A k b s (A 15 k - 1).toNat x0
  | 0, _ => by simp [yxs]
  | p + 1, hp => by
    have ih := yxs_ok h p (by omega)
    have := (ypk_next (A := A) (k := k) (b := b) (s := s) (p := p) (x := yxs A k b s x0 p) (by omega) (by rw [ih]; exact h)).2.2
    rw [ih] at this
    exact this
theorem V158_0 {d : Nat} (hd : 2 ≤ d) {Q : Option Value → xM → Prop} {m : Nat} {Φ : (Nat → Nat → Int32) → xM} (hΦ : MLaw m Φ) {A : Nat → Int → Int} (hR : RG A) {x1 x2 x3 : Int} (rr : Rg x1 ∧ Rg x2 ∧ Rg x3) (h : wpE (xT 158) (xev xT d) Q (26, [(0, .ref m), (1, .int (iz x1)), (4, .int (iz 0)), (5, .int (iz 0))], [], Φ (mI (UA (UA (UA A 0 39 x2) 0 40 x3) 0 41 (A 30 0))))) : wpE (xT 158) (xev xT d) Q (0, [(0, .ref m), (1, .int (iz x1)), (2, .int (iz x2)), (3, .int (iz x3))], [], Φ (mI A)) := by
  refine p_ald (cc3 c158_0) rfl ?_
  refine p_ild (cc3 c158_1) rfl ?_
  refine (fun _ : Rg x2 => n_puti hΦ (cc3 c158_2) (ji := 39) rfl ?_) rr.2.1
  refine p_ald (cc3 c158_5) rfl ?_
  refine p_ild (cc3 c158_6) rfl ?_
  refine (fun _ : Rg x3 => n_puti hΦ (cc3 c158_7) (ji := 40) rfl ?_) rr.2.2
  refine p_ald (cc3 c158_10) rfl ?_
  refine p_ald (cc3 c158_11) rfl ?_
  refine pm_getp hΦ (cc3 c158_12) (c := 30) rfl (by decide) ?_
  refine i_push (n := 0) (cc3 c158_15) zl_0 ?_
  refine n_aldi hΦ (c := 30) (n := 4800) (ni := 4800) (cc3 c158_16) (by decide) rfl rfl rfl (by decide) (by decide) (v := A 30 0) (by first | rfl | exact UA_eq | simp [UA]) ?_
  refine (fun _ : Rg (A 30 0) => n_puti hΦ (cc3 c158_17) (ji := 41) rfl ?_) (hR 30 0)
  refine i_push (n := 0) (cc3 c158_20) zl_0 ?_
  refine p_ist (ls' := [(4, .int (iz 0)), (0, .ref m), (1, .int (iz x1)), (2, .int (iz x2)), (3, .int (iz x3))]) (cc3 c158_21) (by decide) rfl ?_
  refine i_push (n := 0) (cc3 c158_23) zl_0 ?_
  refine p_ist (ls' := [(5, .int (iz 0)), (4, .int (iz 0)), (0, .ref m), (1, .int (iz x1)), (2, .int (iz x2)), (3, .int (iz x3))]) (cc3 c158_24) (by decide) rfl ?_
  exact p_lc (ls' := [(0, .ref m), (1, .int (iz x1)), (4, .int (iz 0)), (5, .int (iz 0))]) c158_26 rfl rfl h
theorem V158_26 {d : Nat} (hd : 2 ≤ d) {Q : Option Value → xM → Prop} {m : Nat} {Φ : (Nat → Nat → Int32) → xM} (hΦ : MLaw m Φ) {A : Nat → Int → Int} (hR : RG A) {x1 x4 x5 : Int} (rr : Rg x1 ∧ Rg x4 ∧ Rg x5) (h : (0 ≤ x1 ∧ x1 < 8) ∧ ((((A 15 x1) ≤ x5) → Q none (Φ (mI A))) ∧ (¬ ((A 15 x1) ≤ x5) → (0 ≤ x5 ∧ x5 < 24) ∧ (Rg (x4 * (A 0 32))) ∧ (Rg ((A 29 x5) + (x4 * (A 0 32)))) ∧ (Rg ((A 15 x1) - 1)) ∧ (((x5 = ((A 15 x1) - 1)) → Q none (Φ (mI (UA (UA A 32 x5 ((A 29 x5) + (x4 * (A 0 32)))) 31 x5 (-1))))) ∧ (¬ (x5 = ((A 15 x1) - 1)) → wpE (xT 158) (xev xT d) Q (84, [(0, .ref m), (1, .int (iz x1)), (4, .int (iz x4)), (5, .int (iz x5)), (6, .int (iz 1))], [], Φ (mI (UA (UA A 32 x5 ((A 29 x5) + (x4 * (A 0 32)))) 31 x5 (-1))))))))) : wpE (xT 158) (xev xT d) Q (26, [(0, .ref m), (1, .int (iz x1)), (4, .int (iz x4)), (5, .int (iz x5))], [], Φ (mI A)) := by
  refine p_ild (cct c158_26 rfl) rfl ?_
  refine p_ald (cc3 c158_28) rfl ?_
  refine pm_getp hΦ (cc3 c158_29) (c := 15) rfl (by decide) ?_
  refine p_ild (cc3 c158_32) rfl ?_
  obtain ⟨g1, h⟩ := h
  refine n_aldi hΦ (c := 15) (n := 8) (ni := 8) (cc3 c158_33) (by decide) rfl rfl rfl (by decide) g1 (v := A 15 x1) rfl ?_
  refine i_icmp (c' := (A 15 x1) ≤ x5) (cc3 c158_34) (iz_le (hR 15 x1) rr.2.2) (fun c => ?_) (fun c => ?_)
  · have h := h.1 c
    exact p_rv (cc3 c158_177) h
  · have h := h.2 c
    refine p_ald (cc3 c158_37) rfl ?_
    refine pm_getp hΦ (cc3 c158_38) (c := 32) rfl (by decide) ?_
    refine p_ild (cc3 c158_41) rfl ?_
    refine p_ald (cc3 c158_43) rfl ?_
    refine pm_getp hΦ (cc3 c158_44) (c := 29) rfl (by decide) ?_
    refine p_ild (cc3 c158_47) rfl ?_
    obtain ⟨g2, h⟩ := h
    refine n_aldi hΦ (c := 29) (n := 24) (ni := 24) (cc3 c158_49) (by decide) rfl rfl rfl (by decide) g2 (v := A 29 x5) rfl ?_
    refine p_ild (cc3 c158_50) rfl ?_
    refine p_ald (cc3 c158_52) rfl ?_
    refine n_geti hΦ (v := A 0 32) (cc3 c158_53) (ji := 32) rfl rfl ?_
    obtain ⟨g3, h⟩ := h
    refine (fun _ : Rg (x4 * (A 0 32)) => i_mul (cc3 c158_56) ?_) g3
    obtain ⟨g4, h⟩ := h
    refine (fun _ : Rg ((A 29 x5) + (x4 * (A 0 32))) => i_add (cc3 c158_57) ?_) g4
    refine id (α := Rg ((A 29 x5) + (x4 * (A 0 32))) → _) (fun _ => ?_) g4; refine n_asti hΦ (c := 32) (n := 24) (ni := 24) (hv := rfl) (cc3 c158_58) (by decide) rfl rfl rfl (by decide) g2 ?_
    refine p_ald (cc3 c158_59) rfl ?_
    refine pm_getp hΦ (cc3 c158_60) (c := 31) rfl (by decide) ?_
    refine p_ild (cc3 c158_63) rfl ?_
    refine i_push (n := (-1)) (cc3 c158_65) zl_m1 ?_
    refine id (α := Rg (-1) → _) (fun _ => ?_) (by decide); refine n_asti hΦ (c := 31) (n := 24) (ni := 24) (hv := rfl) (cc3 c158_66) (by decide) rfl rfl rfl (by decide) g2 ?_
    refine p_ild (cc3 c158_67) rfl ?_
    refine p_ald (cc3 c158_69) rfl ?_
    refine pm_getp hΦ (cc3 c158_70) (c := 15) rfl (by decide) ?_
    refine p_ild (cc3 c158_73) rfl ?_
    refine n_aldi hΦ (c := 15) (n := 8) (ni := 8) (cc3 c158_74) (by decide) rfl rfl rfl (by decide) g1 (v := A 15 x1) (by first | rfl | exact UA_eq | simp [UA]) ?_
    refine i_push (n := 1) (cc3 c158_75) zl_1 ?_
    obtain ⟨g5, h⟩ := h
    refine (fun _ : Rg ((A 15 x1) - 1) => i_sub (cc3 c158_76) ?_) g5
    refine i_icmp (c' := x5 = ((A 15 x1) - 1)) (cc3 c158_77) (iz_inj rr.2.2 g5) (fun c => ?_) (fun c => ?_)
    · have h := h.1 c
      exact p_rv (cc3 c158_80) h
    · have h := h.2 c
      refine i_push (n := 1) (cc3 c158_81) zl_1 ?_
      refine p_ist (ls' := [(6, .int (iz 1)), (0, .ref m), (1, .int (iz x1)), (4, .int (iz x4)), (5, .int (iz x5))]) (cc3 c158_82) (by decide) rfl ?_
      exact p_lc (ls' := [(0, .ref m), (1, .int (iz x1)), (4, .int (iz x4)), (5, .int (iz x5)), (6, .int (iz 1))]) c158_84 rfl rfl h
theorem V158_84 {d : Nat} (hd : 2 ≤ d) {Q : Option Value → xM → Prop} {m : Nat} {Φ : (Nat → Nat → Int32) → xM} (hΦ : MLaw m Φ) {A : Nat → Int → Int} (hR : RG A) {x1 x4 x5 x6 : Int} (rr : Rg x1 ∧ Rg x4 ∧ Rg x5 ∧ Rg x6) (h : (0 ≤ x1 ∧ x1 < 8) ∧ (4 ≤ A 15 x1) ∧ (0 ≤ A 17 x1 ∧ A 17 x1 ≤ 2000) ∧ (0 ≤ A 0 32 ∧ A 0 32 ≤ 400) ∧ (1 ≤ x6 ∧ x6 ≤ 4) ∧ (0 ≤ x4 ∧ x4 ≤ 200) ∧ (Rg (m_nextOf A x1 x5 x4 x6)) ∧ (((200 ≤ (m_nextOf A x1 x5 x4 x6)) → (Rg (x6 + 1)) ∧ wpE (xT 158) (xev xT d) Q (84, [(0, .ref m), (1, .int (iz x1)), (4, .int (iz x4)), (5, .int (iz x5)), (6, .int (iz (x6 + 1)))], [], Φ (mI A))) ∧ (¬ (200 ≤ (m_nextOf A x1 x5 x4 x6)) → (Rg (x5 + 1)) ∧ (Rg (200 * (x5 + 1))) ∧ (Rg ((200 * (x5 + 1)) + (m_nextOf A x1 x5 x4 x6))) ∧ (0 ≤ ((200 * (x5 + 1)) + (m_nextOf A x1 x5 x4 x6)) ∧ ((200 * (x5 + 1)) + (m_nextOf A x1 x5 x4 x6)) < 4800) ∧ (Rg (200 * x5)) ∧ (Rg ((200 * x5) + x4)) ∧ (0 ≤ ((200 * x5) + x4) ∧ ((200 * x5) + x4) < 4800) ∧ ((((A 30 ((200 * (x5 + 1)) + (m_nextOf A x1 x5 x4 x6))) = (A 30 ((200 * x5) + x4))) → (0 ≤ x5 ∧ x5 < 24) ∧ wpE (xT 158) (xev xT d) Q (26, [(0, .ref m), (1, .int (iz x1)), (4, .int (iz (m_nextOf A x1 x5 x4 x6))), (5, .int (iz (x5 + 1)))], [], Φ (mI (UA A 31 x5 x6)))) ∧ (¬ ((A 30 ((200 * (x5 + 1)) + (m_nextOf A x1 x5 x4 x6))) = (A 30 ((200 * x5) + x4))) → (Rg (x6 + 1)) ∧ wpE (xT 158) (xev xT d) Q (84, [(0, .ref m), (1, .int (iz x1)), (4, .int (iz x4)), (5, .int (iz x5)), (6, .int (iz (x6 + 1)))], [], Φ (mI A))))))) : wpE (xT 158) (xev xT d) Q (84, [(0, .ref m), (1, .int (iz x1)), (4, .int (iz x4)), (5, .int (iz x5)), (6, .int (iz x6))], [], Φ (mI A)) := by
  refine p_ald (cct c158_84 rfl) rfl ?_
  refine p_ild (cc3 c158_85) rfl ?_
  refine p_ild (cc3 c158_86) rfl ?_
  refine p_ild (cc3 c158_88) rfl ?_
  refine p_ild (cc3 c158_90) rfl ?_
  obtain ⟨g1, h⟩ := h
  obtain ⟨g2, h⟩ := h
  obtain ⟨g3, h⟩ := h
  obtain ⟨g4, h⟩ := h
  obtain ⟨g5, h⟩ := h
  obtain ⟨g6, h⟩ := h
  refine p_callV (cc3 c158_92) (Nat.le_of_ble_eq_true rfl) rfl rfl (Nat.le_of_ble_eq_true rfl) (ml_kd hΦ) (S156 (Nat.le_trans (by decide) hd) hΦ hR ⟨rr.1, rr.2.2.1, rr.2.1, rr.2.2.2⟩ ⟨g1, g2, g3, g4, g5, g6⟩) ?_
  refine i_push (n := 200) (cc3 c158_95) zl_200 ?_
  obtain ⟨g7, h⟩ := h
  refine i_icmp (c' := 200 ≤ (m_nextOf A x1 x5 x4 x6)) (cc3 c158_98) (iz_le (by decide) g7) (fun c => ?_) (fun c => ?_)
  · have h := h.1 c
    obtain ⟨g8, h⟩ := h
    refine (fun _ : Rg (x6 + 1) => i_iinc (n := 1) (y := x6 + 1) (ls' := [(6, .int (iz (x6 + 1))), (0, .ref m), (1, .int (iz x1)), (4, .int (iz x4)), (5, .int (iz x5))]) (cct c158_143 rfl) (by decide) rfl zl_1 (by first | rfl | omega) rfl ?_) g8
    refine p_goto (cc3 c158_146) ?_
    exact p_lc (ls' := [(0, .ref m), (1, .int (iz x1)), (4, .int (iz x4)), (5, .int (iz x5)), (6, .int (iz (x6 + 1)))]) c158_84 rfl rfl h
  · have h := h.2 c
    refine p_ald (cc3 c158_101) rfl ?_
    refine pm_getp hΦ (cc3 c158_102) (c := 30) rfl (by decide) ?_
    refine i_push (n := 200) (cc3 c158_105) zl_200 ?_
    refine p_ild (cc3 c158_108) rfl ?_
    refine i_push (n := 1) (cc3 c158_110) zl_1 ?_
    obtain ⟨g8, h⟩ := h
    refine (fun _ : Rg (x5 + 1) => i_add (cc3 c158_111) ?_) g8
    obtain ⟨g9, h⟩ := h
    refine (fun _ : Rg (200 * (x5 + 1)) => i_mul (cc3 c158_112) ?_) g9
    refine p_ald (cc3 c158_113) rfl ?_
    refine p_ild (cc3 c158_114) rfl ?_
    refine p_ild (cc3 c158_115) rfl ?_
    refine p_ild (cc3 c158_117) rfl ?_
    refine p_ild (cc3 c158_119) rfl ?_
    refine p_callV (cc3 c158_121) (Nat.le_of_ble_eq_true rfl) rfl rfl (Nat.le_of_ble_eq_true rfl) (ml_kd hΦ) (S156 (Nat.le_trans (by decide) hd) hΦ hR ⟨rr.1, rr.2.2.1, rr.2.1, rr.2.2.2⟩ ⟨g1, g2, g3, g4, g5, g6⟩) ?_
    obtain ⟨g10, h⟩ := h
    refine (fun _ : Rg ((200 * (x5 + 1)) + (m_nextOf A x1 x5 x4 x6)) => i_add (cc3 c158_124) ?_) g10
    obtain ⟨g11, h⟩ := h
    refine n_aldi hΦ (c := 30) (n := 4800) (ni := 4800) (cc3 c158_125) (by decide) rfl rfl rfl (by decide) g11 (v := A 30 ((200 * (x5 + 1)) + (m_nextOf A x1 x5 x4 x6))) rfl ?_
    refine p_ald (cc3 c158_126) rfl ?_
    refine pm_getp hΦ (cc3 c158_127) (c := 30) rfl (by decide) ?_
    refine i_push (n := 200) (cc3 c158_130) zl_200 ?_
    refine p_ild (cc3 c158_133) rfl ?_
    obtain ⟨g12, h⟩ := h
    refine (fun _ : Rg (200 * x5) => i_mul (cc3 c158_135) ?_) g12
    refine p_ild (cc3 c158_136) rfl ?_
    obtain ⟨g13, h⟩ := h
    refine (fun _ : Rg ((200 * x5) + x4) => i_add (cc3 c158_138) ?_) g13
    obtain ⟨g14, h⟩ := h
    refine n_aldi hΦ (c := 30) (n := 4800) (ni := 4800) (cc3 c158_139) (by decide) rfl rfl rfl (by decide) g14 (v := A 30 ((200 * x5) + x4)) rfl ?_
    refine i_icmp (c' := (A 30 ((200 * (x5 + 1)) + (m_nextOf A x1 x5 x4 x6))) = (A 30 ((200 * x5) + x4))) (cc3 c158_140) (iz_inj (hR 30 ((200 * (x5 + 1)) + (m_nextOf A x1 x5 x4 x6))) (hR 30 ((200 * x5) + x4))) (fun c => ?_) (fun c => ?_)
    · have h := h.1 c
      refine p_ald (cc3 c158_149) rfl ?_
      refine pm_getp hΦ (cc3 c158_150) (c := 31) rfl (by decide) ?_
      refine p_ild (cc3 c158_153) rfl ?_
      refine p_ild (cc3 c158_155) rfl ?_
      obtain ⟨g15, h⟩ := h
      refine id (α := Rg x6 → _) (fun _ => ?_) rr.2.2.2; refine n_asti hΦ (c := 31) (n := 24) (ni := 24) (hv := rfl) (cc3 c158_157) (by decide) rfl rfl rfl (by decide) g15 ?_
      refine p_ald (cc3 c158_158) rfl ?_
      refine p_ild (cc3 c158_159) rfl ?_
      refine p_ild (cc3 c158_160) rfl ?_
      refine p_ild (cc3 c158_162) rfl ?_
      refine p_ild (cc3 c158_164) rfl ?_
      refine p_callV (cc3 c158_166) (Nat.le_of_ble_eq_true rfl) rfl rfl (Nat.le_of_ble_eq_true rfl) (ml_kd hΦ) (S156 (Nat.le_trans (by decide) hd) hΦ (rg_UA hR rr.2.2.2) ⟨rr.1, rr.2.2.1, rr.2.1, rr.2.2.2⟩ ⟨g1, g2, g3, g4, g5, g6⟩) ?_
      refine p_ist (ls' := [(4, .int (iz (m_nextOf A x1 x5 x4 x6))), (0, .ref m), (1, .int (iz x1)), (5, .int (iz x5)), (6, .int (iz x6))]) (cc3 c158_169) (by decide) rfl ?_
      refine (fun _ : Rg (x5 + 1) => i_iinc (n := 1) (y := x5 + 1) (ls' := [(5, .int (iz (x5 + 1))), (4, .int (iz (m_nextOf A x1 x5 x4 x6))), (0, .ref m), (1, .int (iz x1)), (6, .int (iz x6))]) (cc3 c158_171) (by decide) rfl zl_1 (by first | rfl | omega) rfl ?_) g8
      refine p_goto (cc3 c158_174) ?_
      exact p_lc (ls' := [(0, .ref m), (1, .int (iz x1)), (4, .int (iz (m_nextOf A x1 x5 x4 x6))), (5, .int (iz (x5 + 1)))]) c158_26 rfl rfl h
    · have h := h.2 c
      obtain ⟨g15, h⟩ := h
      refine (fun _ : Rg (x6 + 1) => i_iinc (n := 1) (y := x6 + 1) (ls' := [(6, .int (iz (x6 + 1))), (0, .ref m), (1, .int (iz x1)), (4, .int (iz x4)), (5, .int (iz x5))]) (cct c158_143 rfl) (by decide) rfl zl_1 (by first | rfl | omega) rfl ?_) g15
      refine p_goto (cc3 c158_146) ?_
      exact p_lc (ls' := [(0, .ref m), (1, .int (iz x1)), (4, .int (iz x4)), (5, .int (iz x5)), (6, .int (iz (x6 + 1)))]) c158_84 rfl rfl h

theorem L158b {d : Nat} (hd : 2 ≤ d) {Q : Option Value → xM → Prop} {m : Nat} {Φ : (Nat → Nat → Int32) → xM} (hΦ : MLaw m Φ) {A0 A : Nat → Int → Int} (hR : RG A) {k b s o x : Int} {p : Nat} (hL : LayC A0 k b s) (hB : BaseC A0 k s) (hF : Fr [31, 32] [39, 40, 41] A0 A) (hp : (p : Int) ≤ A0 15 k - 2) (ho : 0 ≤ o ∧ o ≤ 8 * p) (hx : x = A0 29 p + o * A0 3 s)
    (hb : ∀ q : Int, 0 ≤ q → q < A0 15 k → BestC A0 k b s q (A0 30)) (hx2 : yG A0 k b s (A0 15 k - 1 - p).toNat x < 1000000)
    (hQ : wpE (xT 158) (xev xT d) Q (26, [(0, .ref m), (1, .int (iz k)), (4, .int (iz (o + m_periods A0 k p (ypk A0 k b s p x)))), (5, .int (iz ((p : Int) + 1)))], [], Φ (mI (UA A 31 p (ypk A0 k b s p x))))) :
    ∀ (r : Nat) (i : Int), 1 ≤ i → i + r = ypk A0 k b s p x → wpE (xT 158) (xev xT d) Q (84, [(0, .ref m), (1, .int (iz k)), (4, .int (iz o)), (5, .int (iz p)), (6, .int (iz i))], [], Φ (mI A)) := by
  have e := yG_lt (p := p) (by omega) hx2
  have hx3 := hx2
  rw [e] at hx3
  obtain ⟨k1, k2, k3⟩ := ypk_ok hx3
  obtain ⟨j1, j2, j3⟩ := ypk_next (p := p) (by omega) hx2
  have hLA := hL.fr hF (by decide) (by decide)
  have eP : A 0 32 = A0 3 s := by rw [hF.2 32 (by decide)]; exact hL.2.2.2.1
  have e15 : A 15 = A0 15 := hF.1 15 (by decide) (by decide)
  have e17 : A 17 = A0 17 := hF.1 17 (by decide) (by decide)
  have e11 : A 11 = A0 11 := hF.1 11 (by decide) (by decide)
  have e30 : A 30 = A0 30 := hF.1 30 (by decide) (by decide)
  have emp : m_periods A = m_periods A0 := by funext k p q; unfold m_periods; rw [e11, e15]
  obtain ⟨a1, a2, a3, a4, a5, a6, a7, a8, a9, a10, a11⟩ := hL
  have est : ∀ i : Int, m_fixed A k p + m_periods A k p i * A 0 32 = yst A0 k (A0 3 s) p i := fun i => by
    rw [fixed_y, eP, emp]
    unfold yst yfx
    rw [e11, e15, e17]
  have eno : ∀ i : Int, m_nextOf A k p o i = if A0 17 k < yst A0 k (A0 3 s) p i then o + m_periods A0 k p i else 200 := fun i => by
    unfold m_nextOf; rw [est, emp, e17]
  have hcur : A 30 (200 * p + o) = gM (yf A0 k b s p x) 4 := by
    rw [e30, hb p (by omega) (by omega) o (by omega) (by omega), ← hx, e]
  have hval : ∀ i : Int, 1 ≤ i → i ≤ 4 → A0 17 k < yst A0 k (A0 3 s) p i → A 30 (200 * ((p : Int) + 1) + (o + m_periods A0 k p i)) = yf A0 k b s p x i := fun i i1 i2 i3 => by
    have pb := periods_b (A := A0) (k := k) (p := p) (m := i) (by omega)
    have efv : yf A0 k b s p x i = if A0 17 k < yst A0 k (A0 3 s) p i then yG A0 k b s (A0 15 k - 2 - p).toNat (x + yst A0 k (A0 3 s) p i) else 1000000 := rfl
    rw [e30, hb _ (by omega) (by omega) _ (by omega) (by omega), efv, if_pos i3, hB.2 p (by omega) (by omega)]
    have e1 : A0 15 k - 1 - ((p : Int) + 1) = A0 15 k - 2 - p := by omega
    have e2 : A0 29 p + yfx A0 k (A0 3 s) p + (o + m_periods A0 k p i) * A0 3 s = x + yst A0 k (A0 3 s) p i := by
      rw [hx]; unfold yst; rw [Int.add_mul]; omega
    rw [e1, e2]
  intro r
  induction r with
  | zero =>
    intro i h1 h2
    have hi : i = ypk A0 k b s p x := by omega
    subst hi
    have pb := periods_b (A := A0) (k := k) (p := p) (m := ypk A0 k b s p x) (by omega)
    refine V158_84 hd hΦ hR (by omega) ?_
    rw [eno, if_pos j2, hval _ k1.1 k1.2 j2, hcur]
    refine ⟨by omega, by rw [e15]; omega, by rw [e17]; omega, by omega, by omega, by omega, by omega, fun c => absurd c (by omega), fun c => ⟨by omega, by omega, by omega, by omega, by omega, by omega, by omega, fun c2 => ⟨by omega, hQ⟩, fun c2 => absurd k2 c2⟩⟩
  | succ r ih =>
    intro i h1 h2
    have pb := periods_b (A := A0) (k := k) (p := p) (m := i) (by omega)
    have hn := k3 i h1 (by omega)
    refine V158_84 hd hΦ hR (by omega) ?_
    rw [eno]
    by_cases c0 : A0 17 k < yst A0 k (A0 3 s) p i
    · rw [if_pos c0, hval i h1 (by omega) c0, hcur]
      refine ⟨by omega, by rw [e15]; omega, by rw [e17]; omega, by omega, by omega, by omega, by omega, fun c => absurd c (by omega), fun c => ⟨by omega, by omega, by omega, by omega, by omega, by omega, by omega, fun c2 => absurd c2 hn, fun c2 => ⟨by omega, ih (i + 1) (by omega) (by omega)⟩⟩⟩
    · rw [if_neg c0]
      refine ⟨by omega, by rw [e15]; omega, by rw [e17]; omega, by omega, by omega, by omega, by omega, fun c => ⟨by omega, ih (i + 1) (by omega) (by omega)⟩, fun c => absurd (show (200 : Int) ≤ 200 by omega) c⟩
theorem L158a {d : Nat} (hd : 2 ≤ d) {Q : Option Value → xM → Prop} {m : Nat} {Φ : (Nat → Nat → Int32) → xM} (hΦ : MLaw m Φ) {A0 : Nat → Int → Int} {A1 : Nat → Int → Int} {k b s : Int} (hL : LayC A0 k b s) (hB : BaseC A0 k s) (hb : ∀ q : Int, 0 ≤ q → q < A0 15 k → BestC A0 k b s q (A0 30)) (hlt : yG A0 k b s (A0 15 k - 1).toNat (A0 29 0) < 1000000)
    (hQ : ∀ A', RG A' → Fr [31, 32] [39, 40, 41] A0 A' → (∀ q : Nat, (q : Int) < A0 15 k → A' 32 q = yxs A0 k b s (A0 29 0) q ∧ A' 31 q = if (q : Int) = A0 15 k - 1 then -1 else ypk A0 k b s q (yxs A0 k b s (A0 29 0) q)) → (∀ j : Int, j = 39 ∨ j = 40 ∨ j = 41 → A' 0 j = A1 0 j) → Q none (Φ (mI A'))) :
    ∀ (r p : Nat) (o : Int) (A : Nat → Int → Int), (p : Int) + r = A0 15 k - 1 → RG A → Fr [31, 32] [39, 40, 41] A0 A → 0 ≤ o → o ≤ 8 * p → yxs A0 k b s (A0 29 0) p = A0 29 p + o * A0 3 s → (∀ q : Nat, q < p → A 32 q = yxs A0 k b s (A0 29 0) q ∧ A 31 q = ypk A0 k b s q (yxs A0 k b s (A0 29 0) q)) → (∀ j : Int, j = 39 ∨ j = 40 ∨ j = 41 → A 0 j = A1 0 j) → wpE (xT 158) (xev xT d) Q (26, [(0, .ref m), (1, .int (iz k)), (4, .int (iz o)), (5, .int (iz p))], [], Φ (mI A)) := by
  have hL' := hL
  obtain ⟨a1, a2, a3, a4, a5, a6, a7, a8, a9, a10, a11⟩ := hL'
  intro r
  induction r with
  | zero =>
    intro p o A h1 hR hF o1 o2 hx hv h0
    have e15 : A 15 = A0 15 := hF.1 15 (by decide) (by decide)
    have e29 : A 29 = A0 29 := hF.1 29 (by decide) (by decide)
    have eP : A 0 32 = A0 3 s := by rw [hF.2 32 (by decide)]; exact a4
    have ab := hB.1 p (by omega) (by omega)
    have b1 := mul_b (a := o) (b := A0 3 s) (M := 200) (N := 400) (by omega) (by omega) (by omega) (by omega)
    refine V158_26 hd hΦ hR (by omega) ?_
    rw [e15, e29, eP]
    refine ⟨by omega, fun c => absurd c (by omega), fun _ => ⟨by omega, by omega, by omega, by omega, fun c => ?_, fun c => absurd (show (p : Int) = A0 15 k - 1 by omega) c⟩⟩
    refine hQ _ (rg_UA (rg_UA hR (by omega)) (by decide)) ((hF.row (by decide) (by decide)).row (by decide) (by decide)) (fun q q1 => ?_) (fun j hj => by rw [UA_c (by decide), UA_c (by decide)]; exact h0 j hj)
    by_cases e : q = p
    · subst e
      rw [if_pos c, UA_c (by decide), UA_eq, UA_eq]
      exact ⟨hx.symm, rfl⟩
    · rw [if_neg (by omega), UA_c (by decide), UA_j (by omega), UA_j (by omega), UA_c (by decide)]
      exact hv q (by omega)
  | succ r ih =>
    intro p o A h1 hR hF o1 o2 hx hv h0
    have e15 : A 15 = A0 15 := hF.1 15 (by decide) (by decide)
    have e29 : A 29 = A0 29 := hF.1 29 (by decide) (by decide)
    have eP : A 0 32 = A0 3 s := by rw [hF.2 32 (by decide)]; exact a4
    have ab := hB.1 p (by omega) (by omega)
    have b1 := mul_b (a := o) (b := A0 3 s) (M := 200) (N := 400) (by omega) (by omega) (by omega) (by omega)
    have hlx : yG A0 k b s (A0 15 k - 1 - p).toNat (yxs A0 k b s (A0 29 0) p) < 1000000 := by rw [yxs_ok hlt p (by omega)]; exact hlt
    obtain ⟨j1, j2, j3⟩ := ypk_next (p := p) (by omega) hlx
    have pb := periods_b (A := A0) (k := k) (p := p) (m := ypk A0 k b s p (yxs A0 k b s (A0 29 0) p)) j1
    have hR' := rg_UA (rg_UA hR (c := 32) (j := p) (v := A0 29 p + o * A0 3 s) (by omega)) (c := 31) (j := p) (v := -1) (by decide)
    have hF' := (hF.row (c := 32) (j := p) (v := A0 29 p + o * A0 3 s) (by decide) (by decide)).row (c := 31) (j := p) (v := -1) (by decide) (by decide)
    refine V158_26 hd hΦ hR (by omega) ?_
    rw [e15, e29, eP]
    refine ⟨by omega, fun c => absurd c (by omega), fun _ => ⟨by omega, by omega, by omega, by omega, fun c => absurd c (by omega), fun c => ?_⟩⟩
    refine L158b hd hΦ hR' hL hB hF' (by omega) ⟨o1, o2⟩ hx hb hlx ?_ (ypk A0 k b s p (yxs A0 k b s (A0 29 0) p) - 1).toNat 1 (Int.le_refl 1) (by omega)
    refine ih (p + 1) _ _ (by omega) (rg_UA hR' (by omega)) (hF'.row (by decide) (by decide)) (by omega) (by omega) ?_ (fun q q1 => ?_) (fun j hj => by rw [UA_c (by decide), UA_c (by decide), UA_c (by decide)]; exact h0 j hj)
    · show yxs A0 k b s (A0 29 0) p + yst A0 k (A0 3 s) p _ = _
      rw [show ((p + 1 : Nat) : Int) = (p : Int) + 1 from rfl, hB.2 p (by omega) (by omega)]
      unfold yst
      rw [Int.add_mul]
      omega
    · by_cases e : q = p
      · subst e
        rw [UA_c (by decide), UA_c (by decide), UA_eq, UA_eq]
        exact ⟨hx.symm, rfl⟩
      · rw [UA_c (by decide), UA_c (by decide), UA_j (by omega), UA_j (by omega), UA_j (by omega), UA_c (by decide)]
        exact hv q (by omega)
theorem S158 {d : Nat} (hd : 3 ≤ d) {m : Nat} {Φ : (Nat → Nat → Int32) → xM} (hΦ : MLaw m Φ) {A : Nat → Int → Int} (hR : RG A) (b s : Int) {x1 x2 x3 : Int} (rr : Rg x1 ∧ Rg x2 ∧ Rg x3) (hp : (LayC A x1 b s) ∧ (BaseC A x1 s) ∧ (∀ p : Int, 0 ≤ p → p < A 15 x1 → BestC A x1 b s p (A 30)) ∧ (A 30 0 < 1000000)) : ∃ (A' : Nat → Int → Int), xev xT d 158 [.ref m, .int (iz x1), .int (iz x2), .int (iz x3)] (Φ (mI A)) none (Φ (mI A')) ∧ RG A' ∧ (Fr [31, 32] [39, 40, 41] A A' ∧ A' 0 39 = x2 ∧ A' 0 40 = x3 ∧ A' 0 41 = A 30 0 ∧ ∀ p : Nat, (p : Int) < A 15 x1 → A' 32 p = yxs A x1 b s (A 29 0) p ∧ A' 31 p = if (p : Int) = A 15 x1 - 1 then -1 else ypk A x1 b s p (yxs A x1 b s (A 29 0) p)) := by
  refine xev_g (i := 158) (as := [.ref m, .int (iz x1), .int (iz x2), .int (iz x3)]) (σ := Φ (mI A)) (Q := fun r_ σ_ => ∃ (A' : Nat → Int → Int), r_ = none ∧ σ_ = Φ (mI A') ∧ RG A' ∧ (Fr [31, 32] [39, 40, 41] A A' ∧ A' 0 39 = x2 ∧ A' 0 40 = x3 ∧ A' 0 41 = A 30 0 ∧ ∀ p : Nat, (p : Int) < A 15 x1 → A' 32 p = yxs A x1 b s (A 29 0) p ∧ A' 31 p = if (p : Int) = A 15 x1 - 1 then -1 else ypk A x1 b s p (yxs A x1 b s (A 29 0) p))) (D := 2) hd (Nat.le_of_ble_eq_true rfl) (fun r_ σ_ he hq => ?_) (fun d hd => V158_0 hd hΦ hR rr ?_)
  · obtain ⟨A', rfl, rfl, hq⟩ := hq
    exact ⟨A', he, hq⟩

  obtain ⟨hL, hB, hb, hlt⟩ := hp
  have hL' := hL
  obtain ⟨a1, a2, a3, a4, a5, a6, a7, a8, a9, a10, a11⟩ := hL'
  have e0 := hb 0 (Int.le_refl 0) (by omega) 0 (Int.le_refl 0) (Int.le_refl 0)
  simp only [Int.mul_zero, Int.zero_mul, Int.add_zero, Int.sub_zero] at e0
  have hF : Fr [31, 32] [39, 40, 41] A (UA (UA (UA A 0 39 x2) 0 40 x3) 0 41 (A 30 0)) := ((Fr.rf.fld (by decide)).fld (by decide)).fld (by decide)
  have hR' : RG (UA (UA (UA A 0 39 x2) 0 40 x3) 0 41 (A 30 0)) := rg_UA (rg_UA (rg_UA hR rr.2.1) rr.2.2) (hR 30 0)
  refine L158a (A1 := UA (UA (UA A 0 39 x2) 0 40 x3) 0 41 (A 30 0)) hd hΦ hL hB hb (by rw [← e0]; exact hlt) (fun A' hR'' hF' hv h0 => ?_) (A 15 x1 - 1).toNat 0 0 _ (by omega) hR' hF (Int.le_refl 0) (Int.le_refl 0) (by simp [yxs]) (fun q hq => absurd hq (by omega)) (fun j hj => rfl)
  refine ⟨A', rfl, rfl, hR'', hF', ?_, ?_, ?_, hv⟩
  · rw [h0 39 (by omega)]; rfl
  · rw [h0 40 (by omega)]; rfl
  · rw [h0 41 (by omega)]; rfl
