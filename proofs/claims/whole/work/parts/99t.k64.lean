theorem K0b {d : Nat} (hd : 4 ≤ d) {Q : Option Value → xM → Prop} {W : gW} (hW : HW W) {P : Nat → Int → Nat} (hT : Stat W P) (hG : GL W) {A0 : Nat → Int → Int} (hs : StrA A0)
    (hQ : ∀ A', RG A' → (∀ c, ¬ c = 1 → ¬ c = 2 → A' c = A0 c) → A' 1 1 = 48 → (∀ j : Int, 0 ≤ j → j < 48 → A' 2 j = tZ j) → wpE (xT 0) (xev xT d) Q (157, [(0, .ref (lo W 0)), (1, .int (iz ((48 : Nat) : Int)))], [], Wm W A' P)) : ∀ (r i : Nat) (A : Nat → Int → Int), i + r = 48 → RG A → (∀ c, ¬ c = 1 → ¬ c = 2 → A c = A0 c) → A 1 1 = i → (∀ j : Int, 0 ≤ j → j < i → A 2 j = tZ j) → wpE (xT 0) (xev xT d) Q (129, [(0, .ref (lo W 0)), (1, .int (iz (i : Int)))], [], Wm W A P) := by
  have g0 := hG.1 0 (by decide)
  have sok : SOK W P 500 := ⟨g0.2.1, hT.2.2 0 (by decide), g0.2.2.1, by have := g0.2.2.2; show (gL W (501 + 2 * 0) : Int) ≤ 1000; rw [this]; decide⟩
  have gl : (gL W (500 + 1) : Int) = 48 := by have := g0.2.2.2; show (gL W (501 + 2 * 0) : Int) = 48; rw [this]; rfl
  have ez : gzr W 0 = lo W 500 + 1 := gz_t hG 0 (by decide)
  intro r
  induction r with
  | zero =>
    intro i A hi hR hF h1 h2
    have e : i = 48 := by omega
    subst e
    refine p_ild (cct c0_129 rfl) rfl ?_
    refine w_gref hW (c := 500) (cc3 c0_130) ez ?_
    refine p_callW (cc3 c0_132) (Nat.le_of_ble_eq_true rfl) rfl rfl (Nat.le_of_ble_eq_true rfl) (wk_kdS hW g0.2.1) (S8 (by omega) hW hR hT hG sok) ?_
    rw [gl]
    exact p_icmp (cc3 c0_135) (fun _ => hQ A hR hF h1 (fun j j0 j1 => h2 j j0 j1)) (fun z => absurd (show iz 48 ≤ iz ((48 : Nat) : Int) by decide) z)
  | succ r ih =>
    intro i A hi hR hF h1 h2
    have ea : A (500 + 1) (i : Int) = tZ i := by
      have e := hs.1 0 (by decide) i (by show i < 48; omega)
      rw [hF (500 + 1) (by decide) (by decide)]
      unfold tZ
      rw [if_pos (by omega), Int.toNat_natCast]
      exact e
    have eb : 0 ≤ tZ i ∧ tZ i ≤ 127 := by
      unfold tZ
      rw [if_pos (by omega), Int.toNat_natCast]
      exact tZ_c i (by omega)
    refine p_ild (cct c0_129 rfl) rfl ?_
    refine w_gref hW (c := 500) (cc3 c0_130) ez ?_
    refine p_callW (cc3 c0_132) (Nat.le_of_ble_eq_true rfl) rfl rfl (Nat.le_of_ble_eq_true rfl) (wk_kdS hW g0.2.1) (S8 (by omega) hW hR hT hG sok) ?_
    rw [gl]
    refine p_icmp (cc3 c0_135) (fun z => ?_) (fun _ => ?_)
    · have z' : iz 48 ≤ iz (i : Int) := z
      have := (iz_le (by decide) ⟨by omega, by omega⟩).mp z'
      omega
    refine p_ald (cc3 c0_138) rfl ?_
    refine w_getp (b := 1) hW hT.1 (cc3 c0_139) (st_k hT 0 12 (by decide)) (ji := ((0 : Nat) : Int)) rfl (st_p hT 0 0 1 (by decide)) ?_
    refine w_gref hW (c := 500) (cc3 c0_142) ez ?_
    refine p_ild (cc3 c0_144) rfl ?_
    have x10 := S10 (d := d) (x1 := (i : Int)) (a0 := 500) hd hW hR hT hG ⟨by omega, by omega⟩ ⟨sok, ⟨by omega, by rw [gl]; omega⟩, by rw [ea]; exact eb⟩
    rw [ea] at x10
    refine p_callW (cc3 c0_145) (Nat.le_of_ble_eq_true rfl) rfl rfl (Nat.le_of_ble_eq_true rfl) (wk_kdS hW g0.2.1) x10 ?_
    have x15 := S15 (d := d) (x1 := tZ i) (by omega) hW hR hT hG ⟨by omega, by omega⟩ (by omega)
    refine p_callV (cc3 c0_148) (Nat.le_of_ble_eq_true rfl) rfl rfl (Nat.le_of_ble_eq_true rfl) (wk_kd hW (by decide) (st_k hT 1 9 (by decide))) x15 ?_
    have ek : k_put A (tZ i) = UA (UA A 2 (A 1 1) (tZ i)) 1 1 (A 1 1 + 1) := by unfold k_put; rw [if_pos (by omega)]
    refine p_iinc (cc3 c0_151) (by decide) rfl (y := iz ((i + 1 : Nat) : Int)) ?_ rfl (p_goto (cc3 c0_154) ?_)
    · show iz (i : Int) + 1 = _
      rw [show (1 : Int32) = iz 1 by decide, iz_add]
      exact congrArg iz (by omega)
    · refine p_lc (ls' := [(0, .ref (lo W 0)), (1, .int (iz ((i + 1 : Nat) : Int)))]) c0_129 rfl rfl ?_
      refine ih (i + 1) _ (by omega) (rg_kput hR ⟨by omega, by omega⟩ (by omega)) (fun c q1 q2 => ?_) ?_ (fun j j0 j1 => ?_)
      · rw [ek, UA_n q1, UA_n q2]; exact hF c q1 q2
      · rw [ek, UA_eq]; omega
      · rw [ek, UA_n (by decide)]
        by_cases e : j = i
        · subst e; rw [h1, UA_eq]
        · rw [UA_j (by omega)]; exact h2 j j0 (by omega)
/-- and the text of it made -/
def RlK (W W' : gW) (P P' : Nat → Int → Nat) (A A' : Nat → Int → Int) : Prop := (HW W' ∧ RG A' ∧ Stat W' P' ∧ GL W') ∧ (∀ c, ¬ (400 ≤ c ∧ c < 403) → gK W' c = gK W c ∧ gL W' c = gL W c ∧ lo W' c = lo W c) ∧ (gsz W' = gsz W + 3 ∧ gsl W' ≤ gsl W + 400) ∧ (gK W' 400 = 10 ∧ gK W' 401 = 20 ∧ gK W' 402 = 20 ∧ gL W' 401 = 10 ∧ gL W' 402 = 10) ∧ (∀ c, ¬ c = 6 → ¬ c = 19 → ¬ (400 ≤ c ∧ c < 403) → P' c = P c) ∧ (P' 19 0 = 400 + 1 ∧ P' 400 0 = 401 + 1 ∧ P' 400 1 = 402 + 1) ∧ (∀ c, ¬ c = 0 → ¬ c = 1 → ¬ c = 6 → ¬ c = 7 → ¬ (400 ≤ c ∧ c < 403) → A' c = A c) ∧ (∀ j : Int, ¬ j = 13 → A' 0 j = A 0 j) ∧ A' 0 13 = 1 ∧ A' 1 1 = 0 ∧ A' 400 2 = 7 ∧ ∀ j : Nat, j < 10 → A' 401 j = (txRow tZ 48 0 ++ txRow tZ 48 1).getD j 0
theorem K0c {d : Nat} (hd : 92 ≤ d) {Q : Option Value → xM → Prop} {W : gW} (hW : HW W) {P : Nat → Int → Nat} (hT : Stat W P) (hG : GL W) {A : Nat → Int → Int} (hR : RG A) (hs : StrA A) {i : Int} (h1 : A 1 1 = 48) (h2 : ∀ j : Int, 0 ≤ j → j < 48 → A 2 j = tZ j) (k0 : gK W 400 = 0 ∧ gK W 401 = 0 ∧ gK W 402 = 0) (z0 : A 400 = fun _ => 0)
    (hQ : ∀ W' P' A', RlK W W' P P' A A' → Q none (Wm W' A' P')) : wpE (xT 0) (xev xT d) Q (157, [(0, .ref (lo W 0)), (1, .int (iz i))], [], Wm W A P) := by
  have htp : TpR A tZ := ⟨by omega, tZ_b, fun j j0 j1 => by
    rw [h2 j j0 (by omega)]
    have : 0 ≤ tZ j ∧ tZ j ≤ 127 := by
      unfold tZ
      rw [if_pos (by omega)]
      exact tZ_c j.toNat (by omega)
    omega⟩
  refine p_ald (cc3 c0_157) rfl ?_
  refine w_getp (b := 6) hW hT.1 (cc3 c0_158) (st_k hT 0 12 (by decide)) (ji := ((2 : Nat) : Int)) rfl (st_p hT 0 2 6 (by decide)) ?_
  refine p_ald (cc3 c0_161) rfl ?_
  refine w_getp (b := 1) hW hT.1 (cc3 c0_162) (st_k hT 0 12 (by decide)) (ji := ((0 : Nat) : Int)) rfl (st_p hT 0 0 1 (by decide)) ?_
  obtain ⟨r, A1, P1, x16, r1, RA1, TP1, p1, f1, y1, -⟩ := S16 (d := d) hd hW hR hT hG tZ ⟨htp, hs⟩
  rw [h1] at y1
  obtain ⟨-, a62, a61, a7⟩ := y1 tZ_A
  have l0 := tZ_0.2
  have l1 := tZ_1.2
  have ll : (txRow tZ 48 0 ++ txRow tZ 48 1).length = 10 := by rw [List.length_append, l0, l1]
  rw [ll] at a61
  rw [l0] at a62
  refine p_callV (cc3 c0_165) (Nat.le_of_ble_eq_true rfl) rfl rfl (Nat.le_of_ble_eq_true rfl) (wk_kd hW (by decide) (st_k hT 6 11 (by decide))) x16 ?_
  refine p_pop (cc3 c0_168) rfl ?_
  refine p_ald (cc3 c0_169) rfl ?_
  refine w_getp (b := 19) hW TP1.1 (cc3 c0_170) (st_k TP1 0 12 (by decide)) (ji := ((8 : Nat) : Int)) rfl (st_p TP1 0 8 19 (by decide)) ?_
  refine i_push (n := 0) (cc3 c0_173) (by decide) ?_
  have f0 : ∀ c, ¬ c = 6 → ¬ c = 7 → A1 c = A c := fun c q1 q2 => f1.1 c (by simp; exact q2) q1
  refine w_new hW TP1.1 (cc3 c0_174) 400 k0.1 (fun V1 e1 W1 => ?_)
  subst e1
  rw [ZA_z (by rw [f0 400 (by decide) (by decide)]; exact z0)]
  have T1 : Stat (gN W 400 10 4) (ZP P1 400) := TP1.gN hG k0.1 (by decide) (by decide)
  have G1 : GL (gN W 400 10 4) := hG.gN k0.1
  refine p_dup (cc3 c0_177) rfl ?_
  refine p_ald (cc3 c0_178) rfl ?_
  have l10 : lo (gN W 400 10 4) 0 = lo W 0 := gN_lo_n (by decide)
  have l19 : lo (gN W 400 10 4) 19 = lo W 19 := gN_lo_n (by decide)
  rw [← l10, ← l19]
  refine w_getp (b := 6) W1 T1.1 (cc3 c0_179) (st_k T1 0 12 (by decide)) (ji := ((2 : Nat) : Int)) rfl (st_p T1 0 2 6 (by decide)) ?_
  obtain ⟨A2, x34, W2, RA2, T2, G2, b1, b2, b3, b4⟩ := S34 (d := d) (n := 10) (a := 400) (by omega) W1 RA1 T1 G1 ⟨by decide, gN_K_e, by rw [gN_K_n (by decide)]; exact k0.2.1, by rw [gN_K_n (by decide)]; exact k0.2.2⟩ ⟨a61, by decide⟩
  refine p_callI (cc3 c0_182) (Nat.le_of_ble_eq_true rfl) rfl rfl (Nat.le_of_ble_eq_true rfl) x34 ?_
  have k2 : ∀ c, ¬ (400 ≤ c ∧ c < 403) → gK (LgW (gN W 400 10 4) 400 10) c = gK W c ∧ gL (LgW (gN W 400 10 4) 400 10) c = gL W c ∧ lo (LgW (gN W 400 10 4) 400 10) c = lo W c := fun c hc => by
    refine ⟨?_, ?_, ?_⟩
    · show gK (gN (gN (gN W 400 10 4) _ _ _) _ _ _) c = _; rw [gN_K_n (by omega), gN_K_n (by omega), gN_K_n (by omega)]
    · show gL (gN (gN (gN W 400 10 4) _ _ _) _ _ _) c = _; rw [gN_L_n (by omega), gN_L_n (by omega), gN_L_n (by omega)]
    · show lo (gN (gN (gN W 400 10 4) _ _ _) _ _ _) c = _; rw [gN_lo_n (by omega), gN_lo_n (by omega), gN_lo_n (by omega)]
  have l40 : lo (LgW (gN W 400 10 4) 400 10) 400 = lo (gN W 400 10 4) 400 := by show lo (gN (gN (gN W 400 10 4) _ _ _) _ _ _) 400 = _; rw [gN_lo_n (by decide), gN_lo_n (by decide)]
  have k40 : gK (LgW (gN W 400 10 4) 400 10) 400 = 10 := by show gK (gN (gN (gN W 400 10 4) _ _ _) _ _ _) 400 = _; rw [gN_K_n (by decide), gN_K_n (by decide), gN_K_e]
  show wpE (xT 0) (xev xT d) Q (185, [(0, .ref (lo (gN W 400 10 4) 0)), (1, .int (iz i))], [.ref (lo (gN W 400 10 4) 400), .int (iz 0), .ref (lo (gN W 400 10 4) 19)], _)
  rw [l10, l19, ← l40, ← (k2 0 (by decide)).2.2, ← (k2 19 (by decide)).2.2]
  refine w_astp W2 (cc3 c0_185) (st_k T2 19 26 (by decide)) ⟨by decide, by rw [(T2.2.1 19 (by decide)).2.1]; decide, by decide⟩ k40 ?_
  have T3 : Stat (LgW (gN W 400 10 4) 400 10) (UP (LgP (ZP P1 400) 400) 19 0 (400 + 1)) := Stat.up (v := 400 + 1) (c := 19) (j := 0) T2 (po_r (c := 19) (by decide)) (Or.inr (kn k40))
  refine p_ald (cc3 c0_186) rfl (i_push (n := 1) (cc3 c0_187) (by decide) ?_)
  refine w_puti W2 (cc3 c0_188) (st_k T3 0 12 (by decide)) (ji := 13) rfl ?_
  refine p_ald (cc3 c0_191) rfl ?_
  refine w_getp (b := 1) W2 T3.1 (cc3 c0_192) (st_k T3 0 12 (by decide)) (ji := ((0 : Nat) : Int)) rfl (st_p T3 0 0 1 (by decide)) ?_
  refine i_push (n := 0) (cc3 c0_195) (by decide) ?_
  refine w_puti W2 (cc3 c0_196) (st_k T3 1 9 (by decide)) (ji := 1) rfl ?_
  refine p_rv (cc3 c0_199) (hQ _ _ _ ?_)
  have u : ∀ c, ¬ c = 0 → ¬ c = 1 → UA (UA A2 0 13 1) 1 1 0 c = A2 c := fun c q1 q2 => by rw [UA_n q2, UA_n q1]
  refine ⟨⟨W2, rg_UA (rg_UA RA2 (by decide)) (by decide), T3, G2⟩, k2, ⟨rfl, ?_⟩, ⟨k40, ?_, ?_, ?_, ?_⟩, fun c q1 q2 q3 => ?_, ⟨UP_e, ?_, ?_⟩, fun c q1 q2 q3 q4 q5 => ?_, fun j hj => ?_, ?_, UA_eq, ?_, fun j hj => ?_⟩
  · show gsl W + 4 + 10 + 10 ≤ gsl W + 400; omega
  · show gK (gN (gN (gN W 400 10 4) _ _ _) _ _ _) 401 = _; rw [gN_K_n (by decide), gN_K_e]
  · show gK (gN (gN (gN W 400 10 4) _ _ _) _ _ _) 402 = _; rw [gN_K_e]
  · show gL (gN (gN (gN W 400 10 4) _ _ _) _ _ _) 401 = _; rw [gN_L_n (by decide), gN_L_e]
  · show gL (gN (gN (gN W 400 10 4) _ _ _) _ _ _) 402 = _; rw [gN_L_e]
  · rw [UP_n q2]
    show LgP (ZP P1 400) 400 c = _
    unfold LgP
    have z : ∀ {R : Nat → Int → Nat} {e : Nat}, ¬ c = e → ZP R e c = R c := fun {R e} h => by funext j; unfold ZP; rw [if_neg h]
    rw [UP_n (by omega), z (by omega), UP_n (by omega), z (by omega), z (by omega), p1, UP_n q1]
  · rw [UP_n (by decide)]
    show LgP (ZP P1 400) 400 400 0 = _
    unfold LgP
    have z : ∀ {R : Nat → Int → Nat} {e : Nat}, ¬ 400 = e → ZP R e 400 = R 400 := fun {R e} h => by funext j; unfold ZP; rw [if_neg h]
    rw [UP_j (by decide), z (by decide), UP_e]
  · rw [UP_n (by decide)]
    show LgP (ZP P1 400) 400 400 1 = _
    unfold LgP
    rw [UP_e]
  · rw [u c q1 q2, b1 c (by omega) (by omega) (by omega)]; exact f0 c q3 q4
  · rw [UA_n (by decide), UA_j hj, b1 0 (by decide) (by decide) (by decide), f0 0 (by decide) (by decide)]
  · rw [UA_n (by decide), UA_eq]
  · rw [u 400 (by decide) (by decide), b3, a62]; rfl
  · rw [u 401 (by decide) (by decide)]
    have := b4 (j : Int) (by omega) (by omega)
    rw [show (400 + 1 : Nat) = 401 from rfl] at this
    rw [this]
    have q := a7 j (by rw [ll]; exact hj)
    rw [Int.zero_add] at q
    exact q
