theorem seP_n {P : Nat → Int → Nat} {a c : Nat} (h : c < a ∨ a + 5 ≤ c) : SeP (ZP P a) a c = P c := by
  show UP (ZP (UP (ZP (UP (ZP (UP (ZP (ZP P a) (a + 1)) a 3 ((a + 1) + 1)) (a + 2)) a 4 ((a + 2) + 1)) (a + 3)) a 5 ((a + 3) + 1)) (a + 4)) a 6 ((a + 4) + 1) c = _
  rw [UP_n (by omega), ZP_n (by omega), UP_n (by omega), ZP_n (by omega), UP_n (by omega), ZP_n (by omega), UP_n (by omega), ZP_n (by omega), ZP_n (by omega)]
theorem seW_n {W : gW} {a n p c : Nat} (h : c < a ∨ a + 5 ≤ c) : gK (SeW (gN W a 6 7) a n p) c = gK W c ∧ gL (SeW (gN W a 6 7) a n p) c = gL W c ∧ lo (SeW (gN W a 6 7) a n p) c = lo W c := ⟨by rw [gN_K_n (by omega), gN_K_n (by omega), gN_K_n (by omega), gN_K_n (by omega), gN_K_n (by omega)], by rw [gN_L_n (by omega), gN_L_n (by omega), gN_L_n (by omega), gN_L_n (by omega), gN_L_n (by omega)], by rw [gN_lo_n (by omega), gN_lo_n (by omega), gN_lo_n (by omega), gN_lo_n (by omega), gN_lo_n (by omega)]⟩
def SRest (W : gW) (A : Nat → Int → Int) (v : Int) (W' : gW) (P' : Nat → Int → Nat) (A' : Nat → Int → Int) : Prop := HW W' ∧ RG A' ∧ Stat W' P' ∧ GL W' ∧ mo A' = mo A ∧ Kp W W' A A' ∧ (gsz W' ≤ gsz W + 20 ∧ gsl W' ≤ gsl W + 2000) ∧ RMo W' P' ∧ ∀ (M' : Nat → Int → Int) (rm : Int), SPost (mo A) M' rm → v = rm ∧ Rel W' P' A' M'
theorem k_sett {W : gW} {P : Nat → Int → Nat} {A : Nat → Int → Int} (h : Sta W P A) : ∃ (v : Int) (W' : gW) (P' : Nat → Int → Nat) (A' : Nat → Int → Int), xev xT 190 38 [.ref (lo W 0)] (Wm W A P) (some (.int (iz v))) (Wm W' A' P') ∧ SRest W A v W' P' A' := by
  obtain ⟨hW, hR, hT, hG, hr⟩ := h
  obtain ⟨hn1, hn2, hn3, hn4, hn5, hn6⟩ := hr.cn
  obtain ⟨oS0, oB0, oK0, oH0, oT0, oR0⟩ := hr.ok
  have hcs := hr.cto.1
  refine xev_g (d := 190) (i := 38) (as := [.ref (lo W 0)]) (σ := Wm W A P) (Q := fun r_ σ_ => ∃ (v : Int) (W' : gW) (P' : Nat → Int → Nat) (A' : Nat → Int → Int), r_ = some (.int (iz v)) ∧ σ_ = Wm W' A' P' ∧ SRest W A v W' P' A') (D := 3) (by decide) (Nat.le_of_ble_eq_true rfl) (fun r_ σ_ he hq => ?_) (fun d hd => V38_0 hd hW hR hT hG ?_)
  · obtain ⟨v, W', P', A', rfl, rfl, hq⟩ := hq
    exact ⟨v, W', P', A', he, hq⟩
  refine ⟨fun n4 => ?_, fun n4 => ?_⟩
  rotate_left
  · refine ⟨-4, W, P, A, rfl, rfl, hW, hR, hT, hG, rfl, Kp.rf, ⟨Nat.le_add_right _ _, Nat.le_add_right _ _⟩, hr.mod, fun M' rm hS => ?_⟩
    obtain ⟨q1, q2⟩ := hS.1 (by omega)
    exact ⟨q1.symm, by rw [q2]; exact hr⟩
  intro r_1 A1 rr1 RA1 hread
  obtain ⟨hF, K, K10, hK, hr1, hrd⟩ := rd_k hr.tp hread
  have hq0 := (srq_0 hr.tp K).1
  rw [hn6] at hK hr1 hrd hq0
  have a1 : ∀ c, ¬ c = 3 → ¬ c = 4 → ¬ c = 5 → A1 c = A c := fun c z1 z2 z3 => hF.1 c (by simp; omega) z1
  have B3 : ∀ c, ¬ c = 1 → UA A1 1 1 0 c = A1 c := fun c z => UA_n z
  have RB : RG (UA A1 1 1 0) := rg_UA RA1 (by decide)
  have kp0 : Kp W W A (UA A1 1 1 0) := ⟨⟨rfl, rfl, rfl⟩, ⟨rfl, rfl⟩, by rw [B3 540 (by decide), a1 540 (by decide) (by decide) (by decide)]⟩
  have mo0 : mo (UA A1 1 1 0) = mo A := mo_n fun c hc => by rw [B3 c (by omega), a1 c (by omega) (by omega) (by omega)]
  have nosp : ∀ (M' : Nat → Int → Int) (rm : Int), SPost (mo A) M' rm → SFr (mo A 0 2) [1, 2, 46] (mo A) M' ∧ M' 0 1 = 0 ∧ (¬ srFault (mo A 1) (mo A 0 1) K = -1 → rm = -100 - srFault (mo A 1) (mo A 0 1) K ∧ M' 0 2 = mo A 0 2) ∧ (srFault (mo A 1) (mo A 0 1) K = -1 → (400 < srPer (mo A 1) (mo A 0 1) K → rm = -9 ∧ M' 0 2 = mo A 0 2) ∧ (¬ 400 < srPer (mo A 1) (mo A 0 1) K → rm = mo A 0 2 ∧ M' 0 2 = mo A 0 2 + 1 ∧ M' 3 (mo A 0 2) = srPer (mo A 1) (mo A 0 1) K ∧ M' 2 (mo A 0 2) = (K : Int) + 1 ∧ M' 6 (mo A 0 2) = bI (mo A 1 (srE (mo A 1) (mo A 0 1) (srq (mo A 1) (mo A 0 1) K)) = 47) ∧ srRead (mo A) M' (mo A 0 2) K)) := fun M' rm hS => by
    obtain ⟨q1, q2, K', q3, q4, q5⟩ := hS.2 (by omega)
    have e : K' = K := srK_u q4 hK
    subst e
    exact ⟨q1, q2, q5⟩
  refine ⟨fun z => ?_, fun z => ⟨⟨?_, ?_⟩, ?_⟩⟩
  rotate_left
  · have := nd_b (t := mo A 1) (n := mo A 0 1) (p := srq (mo A 1) (mo A 0 1) K + 1)
    have b5 := (srq_0 hr.tp K).2
    rw [hn6] at b5
    rw [hr1]
    unfold srFault srF srE
    (repeat' split) <;> omega
  · have := nd_b (t := mo A 1) (n := mo A 0 1) (p := srq (mo A 1) (mo A 0 1) K + 1)
    have b5 := (srq_0 hr.tp K).2
    rw [hn6] at b5
    rw [hr1]
    unfold srFault srF srE
    (repeat' split) <;> omega
  · refine ⟨_, W, P, UA A1 1 1 0, rfl, rfl, hW, RB, hT, hG, mo0, kp0, ⟨Nat.le_add_right _ _, Nat.le_add_right _ _⟩, hr.mod, fun M' rm hS => ?_⟩
    obtain ⟨q1, q2, q3, q4⟩ := nosp M' rm hS
    obtain ⟨q5, q6⟩ := q3 (by rw [← hr1]; exact z)
    exact ⟨by rw [q5, hr1], hr.noset hF q1 q2 q6⟩
  have fm : srFault (mo A 1) (mo A 0 1) K = -1 := by rw [← hr1]; exact z
  obtain ⟨g1, g2, g3⟩ := flt_n hq0 fm
  obtain ⟨e32, e33, eE⟩ := hrd ⟨g1, g2, g3⟩
  have hc : ∀ k : Int, 0 ≤ k → k < ((K + 1 : Nat) : Int) → (0 ≤ A1 4 k ∧ A1 4 k ≤ 7) ∧ 1 ≤ A1 5 k ∧ A1 5 k ≤ 999 := fun k k0 k1 => by
    obtain ⟨j, rfl⟩ : ∃ j : Nat, k = (j : Int) := ⟨k.toNat, by omega⟩
    obtain ⟨w1, w2⟩ := eE j (by omega)
    have ok : srOK (mo A 1) (mo A 0 1) (srq (mo A 1) (mo A 0 1) j) := by
      by_cases e : j = K
      · rw [e]; exact g1
      · exact (hK.1 j (by omega)).1
    obtain ⟨o1, o2, o3, o4⟩ := ok
    rw [w1, w2]
    exact ⟨by omega, cv_1 o4, cv_b.2⟩
  have pB : perK (UA A1 1 1 0) = perK A1 := by funext i; unfold perK; rw [B3 3 (by decide), B3 5 (by decide)]
  have pk := per_k e32 e33 eE
  have nK : ((K + 1 : Nat) : Int) = (K : Int) + 1 := by omega
  rw [pB, B3 3 (by decide), B3 5 (by decide), pk]
  refine ⟨by rw [e32]; omega, fun i i0 i1 => by have := (hc i i0 (by omega)).2; omega, fun z4 => ?_, fun z4 => ?_⟩
  rotate_left
  · refine ⟨-9, W, P, UA A1 1 1 0, rfl, rfl, hW, RB, hT, hG, mo0, kp0, ⟨Nat.le_add_right _ _, Nat.le_add_right _ _⟩, hr.mod, fun M' rm hS => ?_⟩
    obtain ⟨q1, q2, q3, q4⟩ := nosp M' rm hS
    obtain ⟨q5, q6⟩ := (q4 fm).1 (by omega)
    exact ⟨q5.symm, hr.noset hF q1 q2 q6⟩
  -- a SETT is made
  have per1 : 1 ≤ srPer (mo A 1) (mo A 0 1) K := by
    rw [← pk, show (A1 3 2).toNat = K + 1 by omega]
    have q0 := (hc 0 (by decide) (by omega)).2.1
    have q : sm (perK A1) 1 ≤ sm (perK A1) (K + 1) := sm_mono (fun k hk => by unfold perK; exact Int.mul_nonneg (by have := (hc k (by omega) (by omega)).2.1; omega) (by split <;> decide)) (by omega)
    have q2 : sm (perK A1) 1 = 0 + A1 5 ((0 : Nat) : Int) * (if ¬ A1 3 3 = 0 ∧ 0 < ((0 : Nat) : Int) ∧ ((0 : Nat) : Int) < A1 3 2 - 1 then 2 else 1) := rfl
    rw [if_neg (fun z => absurd z.2.1 (by decide))] at q2
    have q3 : A1 5 ((0 : Nat) : Int) = A1 5 0 := rfl
    omega
  obtain ⟨p, hp⟩ : ∃ p : Nat, (p : Int) = srPer (mo A 1) (mo A 0 1) K := ⟨(srPer (mo A 1) (mo A 0 1) K).toNat, by omega⟩
  obtain ⟨a, ha⟩ : ∃ a, a = qS (mo A 0 2) := ⟨_, rfl⟩
  have qa := qS_d (s := mo A 0 2)
  rw [← ha] at qa
  have f0 : gK W a = 0 := hr.fr.1 a (by omega) (by omega)
  have ff : ∀ c, a ≤ c → c < a + 5 → gK W c = 0 := fun c z1 z2 => hr.fr.1 c (by omega) (by omega)
  have W1 : HW (gN W a 6 7) := gN_ok hW f0 (by decide)
  have T1 : Stat (gN W a 6 7) (ZP P a) := hT.gN hG f0 (by omega) (by decide)
  have G1 : GL (gN W a 6 7) := hG.gN f0
  have R1 : RG (ZA (UA A1 1 1 0) a) := rg_ZA RB
  have Z : ∀ c, ¬ c = 1 → ¬ c = a → ZA (UA A1 1 1 0) a c = A1 c := fun c z1 z2 => by rw [ZA_n z2, B3 c z1]
  have pZ : perK (ZA (UA A1 1 1 0) a) = perK A1 := by funext i; unfold perK; rw [Z 3 (by decide) (by omega), Z 5 (by decide) (by omega)]
  obtain ⟨A2, x2, W2, R2, T2, G2, f2, hO2, h02, hk2, hF2, hC2⟩ := S42 (d := 3) (Nat.le_refl 3) W1 R1 T1 G1 (n := K + 1) (p := p) (a := a) ⟨by omega, gN_K_e, by rw [gN_K_n (by omega)]; exact ff _ (by omega) (by omega), by rw [gN_K_n (by omega)]; exact ff _ (by omega) (by omega), by rw [gN_K_n (by omega)]; exact ff _ (by omega) (by omega), by rw [gN_K_n (by omega)]; exact ff _ (by omega) (by omega)⟩ ⟨by rw [Z 3 (by decide) (by omega), e32, nK], by omega, by omega⟩ (by rw [Z 3 (by decide) (by omega), e33]; split; exact Or.inr rfl; exact Or.inl rfl) (by rw [Z 4 (by decide) (by omega), Z 5 (by decide) (by omega)]; exact hc) ⟨by rw [pZ, hp, ← pk, show (A1 3 2).toNat = K + 1 by omega], by omega⟩
  rw [Z 3 (by decide) (by omega)] at h02
  rw [Z 4 (by decide) (by omega), Z 5 (by decide) (by omega)] at hk2
  have A2n : ∀ c, c < a ∨ a + 5 ≤ c → ¬ c = 1 → A2 c = A1 c := fun c z1 z2 => (f2 c z1).trans (Z c z2 (by omega))
  have A20 : A2 0 = A 0 := by rw [A2n 0 (by omega) (by decide), a1 0 (by decide) (by decide) (by decide)]
  have A21 : A2 1 1 = 0 := by rw [f2 1 (by omega), ZA_n (by omega), UA_eq]
  have kW := fun c (z : c < a ∨ a + 5 ≤ c) => seW_n (W := W) (n := K + 1) (p := p) z
  have kP := fun c (z : c < a ∨ a + 5 ≤ c) => seP_n (P := P) z
  have lS : ∀ c, c = 0 ∨ c = a → lo (SeW (gN W a 6 7) a (K + 1) p) c = lo (gN W a 6 7) c := fun c z => by rw [gN_lo_n (by omega), gN_lo_n (by omega), gN_lo_n (by omega), gN_lo_n (by omega)]
  have gz2 : gsz (SeW (gN W a 6 7) a (K + 1) p) = gsz W + 5 ∧ gsl (SeW (gN W a 6 7) a (K + 1) p) = gsl W + 7 + (K + 1) + (K + 1) + (K + 1) + p := ⟨rfl, rfl⟩
  have kA6 := hO2.1.1
  generalize SeW (gN W a 6 7) a (K + 1) p = W2' at *
  generalize SeP (ZP P a) a = P2 at *
  have newS : ∀ (W3 : gW) (P3 : Nat → Int → Nat) (A3 M' : Nat → Int → Int), AgR W2' W3 P2 P3 A2 A3 (qS (mo A 0 2)) 5 → M' 3 (mo A 0 2) = srPer (mo A 1) (mo A 0 1) K → M' 2 (mo A 0 2) = (K : Int) + 1 → M' 6 (mo A 0 2) = bI (mo A 1 (srE (mo A 1) (mo A 0 1) (srq (mo A 1) (mo A 0 1) K)) = 47) → srRead (mo A) M' (mo A 0 2) K → RSe W3 P3 A3 M' (mo A 0 2) ∧ SettOK M' (mo A 0 2) := fun W3 P3 A3 M' ag w3 w2 w6 wr' => by
    obtain ⟨s1, s2⟩ := set_new (M' := M') (M := mo A) (s := mo A 0 2) (K := K) (p := p) (A1 := A1) (by rw [← ha]; exact hO2) (by rw [← ha]; exact h02) (by rw [← ha]; exact hk2) (by rw [← ha]; exact hF2) (by rw [← ha]; exact hC2) e33 eE hc (by omega) hp (by omega) w3 w2 w6 wr'
    exact ⟨s1.same ag eqS.rf, s2⟩
  refine w_new hW hT.1 (cc3 c38_57) a f0 (fun V1 e1 _ => ?_)
  have e1' : V1 = gN W a 6 7 := e1
  subst e1'
  rw [show lo W 0 = lo (gN W a 6 7) 0 from (gN_lo_n (by omega)).symm]
  refine V38_60 hd W1 R1 T1 G1 rr1 ?_
  refine p_callI (cc3 c38_65) (Nat.le_of_ble_eq_true rfl) rfl rfl (Nat.le_of_ble_eq_true rfl) (xev_le hd x2) ?_
  show wpE _ _ _ (68, [(1, .int (iz r_1)), (0, .ref (lo (gN W a 6 7) 0))], [.ref (lo (gN W a 6 7) a)], _)
  rw [← lS 0 (Or.inl rfl), ← lS a (Or.inr rfl)]
  refine V38_68 hd W2 R2 T2 G2 rr1 ⟨fun n0 => ?_, fun n0 => ?_⟩
  · -- the first one: the whole BOLT too
    rw [A20] at n0
    have m0 : mo A 0 2 = 0 := by omega
    have h240 : ∀ c, 240 ≤ c → c < 300 → gK W c = 0 := hr.fr.2.2.1 m0
    have k240 : gK W2' 240 = 0 := by rw [(kW 240 (by omega)).1]; exact h240 240 (by omega) (by omega)
    have k241 : gK W2' (240 + 1) = 0 := by rw [(kW (240 + 1) (by omega)).1]; exact h240 (240 + 1) (by omega) (by omega)
    have W3 : HW (gN W2' 240 1 5) := gN_ok W2 k240 (by decide)
    have T3 : Stat (gN W2' 240 1 5) (ZP P2 240) := T2.gN G2 k240 (by decide) (by decide)
    have G3 : GL (gN W2' 240 1 5) := G2.gN k240
    have R3 : RG (ZA A2 240) := rg_ZA R2
    have key := fun (d : Nat) (hd : 1 ≤ d) => S44 (d := d) hd W3 R3 T3 G3 (x := 0) (y := 9999) (a := 240) (w := a) ⟨by decide, by decide⟩ ⟨by decide, gN_K_e, by rw [gN_K_n (by decide)]; exact k241, by rw [NZ, gN_K_n (by omega), kA6]; decide⟩
    obtain ⟨-, W4, R4, T4, G4⟩ := key 1 (Nat.le_refl 1)
    have kB : ∀ c, ¬ c = 240 → ¬ c = 240 + 1 → gK (BtW (gN W2' 240 1 5) 240) c = gK W2' c ∧ gL (BtW (gN W2' 240 1 5) 240) c = gL W2' c ∧ lo (BtW (gN W2' 240 1 5) 240) c = lo W2' c := fun c z1 z2 => ⟨by rw [gN_K_n z2, gN_K_n z1], by rw [gN_L_n z2, gN_L_n z1], by rw [gN_lo_n z2, gN_lo_n z1]⟩
    have kb : gK (BtW (gN W2' 240 1 5) 240) 240 = 1 := by rw [gN_K_n (by decide)]; exact gN_K_e
    have kb1 : gK (BtW (gN W2' 240 1 5) 240) (240 + 1) = 20 := gN_K_e
    have lb1 : gL (BtW (gN W2' 240 1 5) 240) (240 + 1) = 10 := gN_L_e
    have A4n : ∀ c, ¬ c = 240 → ¬ c = 240 + 1 → BtA (ZA A2 240) 240 0 9999 c = A2 c := fun c z1 z2 => by show UA (UA (ZA (ZA A2 240) (240 + 1)) 240 1 0) 240 2 9999 c = _; rw [UA_n z1, UA_n z1, ZA_n z2, ZA_n z1]
    have A42 : BtA (ZA A2 240) 240 0 9999 240 2 = 9999 := UA_eq
    have A44 : BtA (ZA A2 240) 240 0 9999 240 4 = 0 := by show UA (UA (ZA (ZA A2 240) (240 + 1)) 240 1 0) 240 2 9999 240 4 = _; rw [UA_j (by decide), UA_j (by decide), ZA_n (by decide), ZA_e]
    have P4n : ∀ c, ¬ c = 240 → ¬ c = 240 + 1 → BtP (ZP P2 240) 240 a c = P2 c := fun c z1 z2 => by show UP (UP (ZP (ZP P2 240) (240 + 1)) 240 3 ((240 + 1) + 1)) 240 0 (a + 1) c = _; rw [UP_n z1, UP_n z1, ZP_n z2, ZP_n z1]
    have P43 : BtP (ZP P2 240) 240 a 240 3 = (240 + 1) + 1 := by show UP (UP (ZP (ZP P2 240) (240 + 1)) 240 3 ((240 + 1) + 1)) 240 0 (a + 1) 240 3 = _; rw [UP_j (by decide), UP_e]
    have P40 : BtP (ZP P2 240) 240 a 240 0 = a + 1 := UP_e
    have gz4 : gsz (BtW (gN W2' 240 1 5) 240) = gsz W2' + 2 ∧ gsl (BtW (gN W2' 240 1 5) 240) = gsl W2' + 5 + 10 := ⟨rfl, rfl⟩
    have l4 : ∀ c, ¬ c = 240 + 1 → lo (BtW (gN W2' 240 1 5) 240) c = lo (gN W2' 240 1 5) c := fun c z => gN_lo_n z
    generalize BtA (ZA A2 240) 240 0 9999 = A4 at *
    generalize BtP (ZP P2 240) 240 a = P4 at *
    generalize BtW (gN W2' 240 1 5) 240 = W4' at *
    have ka4 : gK W4' a = 6 := by rw [(kB a (by omega) (by omega)).1]; exact kA6
    have T5 : Stat W4' (UP P4 0 15 (240 + 1)) := Stat.up (v := 240 + 1) (c := 0) (j := ((15 : Nat) : Int)) T4 (po_l (c := 0) (j := 15) (by decide)) (Or.inr (by rw [NZ, Nat.add_sub_cancel, kb]; decide))
    have T6 : Stat W4' (UP (UP P4 0 15 (240 + 1)) 16 (A 0 10) (a + 1)) := Stat.up (v := a + 1) (c := 16) (j := A 0 10) T5 (po_r (c := 16) (by decide)) (Or.inr (by rw [NZ, Nat.add_sub_cancel, ka4]; decide))
    refine w_new W2 T2.1 (cc3 c38_77) 240 k240 (fun V1 e1 _ => ?_)
    have e1' : V1 = gN W2' 240 1 5 := e1
    subst e1'
    rw [show lo W2' 0 = lo (gN W2' 240 1 5) 0 from (gN_lo_n (by decide)).symm, show lo W2' a = lo (gN W2' 240 1 5) a from (gN_lo_n (by omega)).symm]
    refine V38_80 hd W3 R3 T3 G3 rr1 ?_
    refine p_callI (cc3 c38_86) (Nat.le_of_ble_eq_true rfl) rfl rfl (Nat.le_of_ble_eq_true rfl) (key d (by omega)).1 ?_
    show wpE _ _ _ (89, [(2, .ref (lo (gN W2' 240 1 5) a)), (1, .int (iz r_1)), (0, .ref (lo (gN W2' 240 1 5) 0))], [.ref (lo (gN W2' 240 1 5) 240), .ref (lo (gN W2' 240 1 5) 0)], _)
    rw [← l4 a (by omega), ← l4 0 (by decide), ← l4 240 (by decide)]
    have A40 : A4 0 = A 0 := by rw [A4n 0 (by decide) (by decide), A20]
    refine V38_89 hd W4 R4 T4 G4 rr1 ⟨kn kb, by rw [A40]; omega, ka4, by rw [A40]; exact ⟨by omega, by omega⟩, by rw [A40]; exact ⟨by omega, by omega⟩, ?_⟩
    rw [A40]
    have aN : ∀ c, ¬ c = 0 → ¬ c = 1 → ¬ c = 3 → ¬ c = 4 → ¬ c = 5 → ¬ ((a ≤ c ∧ c < a + 5) ∨ (mo A 0 2 = 0 ∧ (c = 240 ∨ c = 240 + 1))) → UA A4 0 10 (A 0 10 + 1) c = A c := fun c z0 z1 z3 z4 z5 z => by
      rw [UA_n z0, A4n c (fun e => z (Or.inr ⟨m0, Or.inl e⟩)) (fun e => z (Or.inr ⟨m0, Or.inr e⟩)), A2n c (by omega) z1, a1 c z3 z4 z5]
    have pN : ∀ c, ¬ c = 0 → ¬ c = 16 → ¬ ((a ≤ c ∧ c < a + 5) ∨ (mo A 0 2 = 0 ∧ (c = 240 ∨ c = 240 + 1))) → UP (UP P4 0 15 (240 + 1)) 16 (A 0 10) (a + 1) c = P c := fun c z0 z1 z => by
      rw [UP_n z1, UP_n z0, P4n c (fun e => z (Or.inr ⟨m0, Or.inl e⟩)) (fun e => z (Or.inr ⟨m0, Or.inr e⟩)), kP c (by omega)]
    have wN : ∀ c, ¬ ((a ≤ c ∧ c < a + 5) ∨ (mo A 0 2 = 0 ∧ (c = 240 ∨ c = 240 + 1))) → gK W4' c = gK W c ∧ gL W4' c = gL W c ∧ lo W4' c = lo W c := fun c z => by
      obtain ⟨u1, u2, u3⟩ := kB c (fun e => z (Or.inr ⟨m0, Or.inl e⟩)) (fun e => z (Or.inr ⟨m0, Or.inr e⟩))
      obtain ⟨u4, u5, u6⟩ := kW c (by omega)
      exact ⟨u1.trans u4, u2.trans u5, u3.trans u6⟩
    have hN : ∀ c, ((a ≤ c ∧ c < a + 5) ∨ (mo A 0 2 = 0 ∧ (c = 240 ∨ c = 240 + 1))) → gK W c = 0 ∧ 100 ≤ c ∧ c < 500 := fun c z => by
      rcases z with z | ⟨-, z⟩
      · exact ⟨ff c z.1 z.2, by omega, by omega⟩
      · exact ⟨h240 c (by omega) (by omega), by omega, by omega⟩
    refine ⟨_, W4', _, _, rfl, rfl, W4, rg_UA R4 ⟨by omega, by omega⟩, T6, G4, ?_, ⟨⟨(wN 0 (by omega)).2.2, (wN 1000 (by omega)).2.2, (wN 540 (by omega)).2.2⟩, ⟨(wN 540 (by omega)).1, (wN 540 (by omega)).2.1⟩, aN 540 (by decide) (by decide) (by decide) (by decide) (by decide) (by omega)⟩, ?_, ?_, fun M' rm hS => ?_⟩
    · exact mo_n fun c hc => aN c (by omega) (by omega) (by omega) (by omega) (by omega) (by omega)
    · rw [gz4.1, gz4.2, gz2.1, gz2.2]; omega
    · refine ⟨fun c hc => ?_, ?_⟩
      · rw [(wN (1000 + c) (by omega)).1, (wN (1000 + c) (by omega)).2.1, (wN (1000 + c) (by omega)).2.2, (wN 1000 (by omega)).2.2]
        exact hr.mod.1 c hc
      · rw [pN 1000 (by decide) (by decide) (by omega)]; exact hr.mod.2
    · obtain ⟨q1, q2, q3, q4⟩ := nosp M' rm hS
      obtain ⟨q5, q6, q7, q8, q9, q10⟩ := (q4 fm).2 (by omega)
      refine ⟨by rw [q5]; omega, hr.seton (N := fun c => (a ≤ c ∧ c < a + 5) ∨ (mo A 0 2 = 0 ∧ (c = 240 ∨ c = 240 + 1))) hN wN (fun c z => by rw [← ha]; omega) pN aN (fun j z => by rw [UA_j z, A40]) UA_eq ?_ (by omega) (fun s z => ?_) ?_ (fun z => by omega) (fun _ => ?_) q1 q2 q6 (newS _ _ _ M' (fun c z1 z2 => ?_) q7 q8 q9 q10)⟩
      · rw [UA_n (by decide), A4n 1 (by decide) (by decide)]; exact A21
      · rw [UP_j (by omega), UP_n (by decide), P4n 16 (by decide) (by decide), kP 16 (by omega)]
      · rw [show mo A 0 2 = A 0 10 by omega, UP_e, ha, show mo A 0 2 = A 0 10 by omega]
      · have pa : ∀ c, ¬ c = 16 → ¬ c = 0 → UP (UP P4 0 15 (240 + 1)) 16 (A 0 10) (a + 1) c = P4 c := fun c z1 z0 => by rw [UP_n z1, UP_n z0]
        have aa : UA A4 0 10 (A 0 10 + 1) 240 = A4 240 := UA_n (by decide)
        refine ⟨by rw [UP_n (by decide), UP_e], ⟨⟨kb, kb1⟩, by rw [pa 240 (by decide) (by decide)]; exact P43, lb1, by rw [aa, A44]; exact ⟨by decide, by decide⟩, by rw [aa, A42]; exact ⟨by decide, by decide⟩, by rw [pa 240 (by decide) (by decide), P40]; omega⟩, by rw [aa]; exact A42, by rw [aa]; exact A44, ?_⟩
        rw [pa 240 (by decide) (by decide), P40, qa, m0]
        rfl
      · rw [← ha] at z1 z2
        exact ⟨(kB c (by omega) (by omega)).1, (kB c (by omega) (by omega)).2.1, by rw [UP_n (by omega), UP_n (by omega), P4n c (by omega) (by omega)], by rw [UA_n (by omega), A4n c (by omega) (by omega)]⟩
  · rw [A20] at n0
    have m0 : ¬ mo A 0 2 = 0 := by omega
    have T6 : Stat W2' (UP P2 16 (A 0 10) (a + 1)) := Stat.up (v := a + 1) (c := 16) (j := A 0 10) T2 (po_r (c := 16) (by decide)) (Or.inr (by rw [NZ, Nat.add_sub_cancel, kA6]; decide))
    rw [A20]
    refine ⟨by omega, kA6, ⟨by omega, by omega⟩, ⟨by omega, by omega⟩, ?_⟩
    have aN : ∀ c, ¬ c = 0 → ¬ c = 1 → ¬ c = 3 → ¬ c = 4 → ¬ c = 5 → ¬ (a ≤ c ∧ c < a + 5) → UA A2 0 10 (A 0 10 + 1) c = A c := fun c z0 z1 z3 z4 z5 z => by
      rw [UA_n z0, A2n c (by omega) z1, a1 c z3 z4 z5]
    have pN : ∀ c, ¬ c = 0 → ¬ c = 16 → ¬ (a ≤ c ∧ c < a + 5) → UP P2 16 (A 0 10) (a + 1) c = P c := fun c z0 z1 z => by
      rw [UP_n z1, kP c (by omega)]
    have wN : ∀ c, ¬ (a ≤ c ∧ c < a + 5) → gK W2' c = gK W c ∧ gL W2' c = gL W c ∧ lo W2' c = lo W c := fun c z => kW c (by omega)
    refine ⟨_, W2', _, _, rfl, rfl, W2, rg_UA R2 ⟨by omega, by omega⟩, T6, G2, ?_, ⟨⟨(wN 0 (by omega)).2.2, (wN 1000 (by omega)).2.2, (wN 540 (by omega)).2.2⟩, ⟨(wN 540 (by omega)).1, (wN 540 (by omega)).2.1⟩, aN 540 (by decide) (by decide) (by decide) (by decide) (by decide) (by omega)⟩, ?_, ?_, fun M' rm hS => ?_⟩
    · exact mo_n fun c hc => aN c (by omega) (by omega) (by omega) (by omega) (by omega) (by omega)
    · rw [gz2.1, gz2.2]; omega
    · refine ⟨fun c hc => ?_, ?_⟩
      · rw [(wN (1000 + c) (by omega)).1, (wN (1000 + c) (by omega)).2.1, (wN (1000 + c) (by omega)).2.2, (wN 1000 (by omega)).2.2]
        exact hr.mod.1 c hc
      · rw [pN 1000 (by decide) (by decide) (by omega)]; exact hr.mod.2
    · obtain ⟨q1, q2, q3, q4⟩ := nosp M' rm hS
      obtain ⟨q5, q6, q7, q8, q9, q10⟩ := (q4 fm).2 (by omega)
      refine ⟨by rw [q5]; omega, hr.seton (N := fun c => a ≤ c ∧ c < a + 5) (fun c z => ⟨ff c z.1 z.2, by omega, by omega⟩) wN (fun c z => by rw [← ha]; exact Or.inl z) pN aN (fun j z => by rw [UA_j z, A20]) UA_eq ?_ (by omega) (fun s z => ?_) ?_ (fun z => ?_) (fun z => absurd z m0) q1 q2 q6 (newS _ _ _ M' (fun c z1 z2 => ?_) q7 q8 q9 q10)⟩
      · rw [UA_n (by decide)]; exact A21
      · rw [UP_j (by omega), kP 16 (by omega)]
      · rw [show mo A 0 2 = A 0 10 by omega, UP_e, ha, show mo A 0 2 = A 0 10 by omega]
      · rw [UP_n (by decide), kP 0 (by omega)]
      · rw [← ha] at z1 z2
        exact ⟨rfl, rfl, UP_n (by omega), UA_n (by omega)⟩
theorem cl_1 {W : gW} {P : Nat → Int → Nat} {A : Nat → Int → Int} (h : Sta W P A) : Cll 38 130 [] W P A := by
  obtain ⟨v, W', P', A', hx, q1, q2, q3, q4, q5, q6, q7, q8, q9⟩ := k_sett h
  have hr := h.2.2.2.2
  obtain ⟨rm, M', hm, m1, m2, m3⟩ := S130 (d := 190) (by decide) (ml_W (A := A') q1 q3.1 q8) (rg_mo h.2.1) ⟨hr.ok.1.1, by have := hr.tp.1; have := hr.cn.2.2.2.2.2; omega⟩
  obtain ⟨e, hrel⟩ := q9 M' rm m3
  rw [e] at hx
  exact stp_m2 hx q5 hm q1 q2 m2 q3 q4 hrel q6 q7
