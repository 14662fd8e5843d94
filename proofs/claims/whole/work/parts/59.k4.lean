theorem V25_0 {d : Nat} (hd : 1 ≤ d) {Q : Option Value → xM → Prop} {W : gW} (hW : HW W) {A : Nat → Int → Int} {P : Nat → Int → Nat} (hR : RG A) (hT : Stat W P) (hG : GL W) (h : (((160 ≤ (A 6 7)) → (Rg ((A 6 7) - (A 6 6))) ∧ (((((A 6 7) - (A 6 6)) ≤ 4) → wpE (xT 25) (xev xT d) Q (76, [(0, .ref (lo W 6)), (1, .int (iz (A 6 6)))], [], Wm W (UA (UA A 6 4 400) 6 5 0) P)) ∧ (¬ (((A 6 7) - (A 6 6)) ≤ 4) → wpE (xT 25) (xev xT d) Q (76, [(0, .ref (lo W 6)), (1, .int (iz (A 6 6)))], [], Wm W (UA (UA A 6 4 402) 6 5 0) P)))) ∧ (¬ (160 ≤ (A 6 7)) → (P 6 3 = 1 + 1) ∧ ((¬ (48 ≤ (k_at A (A 6 7)) ∧ (k_at A (A 6 7)) ≤ 57) → (Rg ((A 6 7) - (A 6 6))) ∧ (((((A 6 7) - (A 6 6)) ≤ 4) → wpE (xT 25) (xev xT d) Q (76, [(0, .ref (lo W 6)), (1, .int (iz (A 6 6)))], [], Wm W (UA (UA A 6 4 400) 6 5 0) P)) ∧ (¬ (((A 6 7) - (A 6 6)) ≤ 4) → wpE (xT 25) (xev xT d) Q (76, [(0, .ref (lo W 6)), (1, .int (iz (A 6 6)))], [], Wm W (UA (UA A 6 4 402) 6 5 0) P)))) ∧ ((48 ≤ (k_at A (A 6 7)) ∧ (k_at A (A 6 7)) ≤ 57) → (Rg ((A 6 7) + 1)) ∧ wpE (xT 25) (xev xT d) Q (0, [(0, .ref (lo W 6))], [], Wm W (UA A 6 7 ((A 6 7) + 1)) P)))))) : wpE (xT 25) (xev xT d) Q (0, [(0, .ref (lo W 6))], [], Wm W A P) := by
  refine p_ald (cct c25_0 rfl) rfl ?_
  refine w_geti hW (v := A 6 7) (cc3 c25_1) (st_k hT 6 11 (by decide)) (ji := 7) rfl rfl ?_
  refine i_push (n := 160) (cc3 c25_4) zl_160 ?_
  refine i_icmp (c' := 160 ≤ (A 6 7)) (cc3 c25_7) (iz_le (by decide : Rg (160 : Int)) (hR 6 7)) (fun c => ?_) (fun c => ?_)
  · have h := h.1 c
    refine p_ald (cct c25_40 rfl) rfl ?_
    refine p_ald (cc3 c25_41) rfl ?_
    refine w_geti hW (v := A 6 7) (cc3 c25_42) (st_k hT 6 11 (by decide)) (ji := 7) rfl rfl ?_
    refine p_ald (cc3 c25_45) rfl ?_
    refine w_geti hW (v := A 6 6) (cc3 c25_46) (st_k hT 6 11 (by decide)) (ji := 6) rfl rfl ?_
    obtain ⟨g1, h⟩ := h
    refine (fun _ : Rg ((A 6 7) - (A 6 6)) => i_sub (cc3 c25_49) ?_) g1
    refine i_push (n := 4) (cc3 c25_50) zl_4 ?_
    refine i_icmp (c' := ((A 6 7) - (A 6 6)) ≤ 4) (cc3 c25_51) (iz_le g1 (by decide : Rg (4 : Int))) (fun c => ?_) (fun c => ?_)
    · have h := h.1 c
      refine i_push (n := 400) (cc3 c25_60) zl_400 ?_
      refine id (α := Rg 400 → _) (fun _ => ?_) (by decide : Rg (400 : Int)); refine w_puti hW (cct c25_63 rfl) (st_k hT 6 11 (by decide)) (ji := 4) rfl ?_
      refine p_ald (cc3 c25_66) rfl ?_
      refine i_push (n := 0) (cc3 c25_67) zl_0 ?_
      refine id (α := Rg 0 → _) (fun _ => ?_) (by decide : Rg (0 : Int)); refine w_puti hW (cc3 c25_68) (st_k hT 6 11 (by decide)) (ji := 5) rfl ?_
      refine p_ald (cc3 c25_71) rfl ?_
      refine w_geti hW (v := A 6 6) (cc3 c25_72) (st_k hT 6 11 (by decide)) (ji := 6) rfl (by first | rfl | exact UA_eq | exact UA_j (by decide) | exact UA_c (by decide)) ?_
      refine p_ist (ls' := [(1, .int (iz (A 6 6))), (0, .ref (lo W 6))]) (cc3 c25_75) (by decide) rfl ?_
      exact p_lc (ls' := [(0, .ref (lo W 6)), (1, .int (iz (A 6 6)))]) c25_76 rfl rfl h
    · have h := h.2 c
      refine i_push (n := 402) (cc3 c25_54) zl_402 ?_
      refine p_goto (cc3 c25_57) ?_
      refine id (α := Rg 402 → _) (fun _ => ?_) (by decide : Rg (402 : Int)); refine w_puti hW (cct c25_63 rfl) (st_k hT 6 11 (by decide)) (ji := 4) rfl ?_
      refine p_ald (cc3 c25_66) rfl ?_
      refine i_push (n := 0) (cc3 c25_67) zl_0 ?_
      refine id (α := Rg 0 → _) (fun _ => ?_) (by decide : Rg (0 : Int)); refine w_puti hW (cc3 c25_68) (st_k hT 6 11 (by decide)) (ji := 5) rfl ?_
      refine p_ald (cc3 c25_71) rfl ?_
      refine w_geti hW (v := A 6 6) (cc3 c25_72) (st_k hT 6 11 (by decide)) (ji := 6) rfl (by first | rfl | exact UA_eq | exact UA_j (by decide) | exact UA_c (by decide)) ?_
      refine p_ist (ls' := [(1, .int (iz (A 6 6))), (0, .ref (lo W 6))]) (cc3 c25_75) (by decide) rfl ?_
      exact p_lc (ls' := [(0, .ref (lo W 6)), (1, .int (iz (A 6 6)))]) c25_76 rfl rfl h
  · have h := h.2 c
    refine p_ald (cc3 c25_10) rfl ?_
    obtain ⟨g1, h⟩ := h
    refine w_getp hW hT.1 (b := 1) (cc3 c25_11) (st_k hT 6 11 (by decide)) (ji := 3) rfl g1 ?_
    refine p_ald (cc3 c25_14) rfl ?_
    refine w_geti hW (v := A 6 7) (cc3 c25_15) (st_k hT 6 11 (by decide)) (ji := 7) rfl rfl ?_
    refine p_callV (cc3 c25_18) (Nat.le_of_ble_eq_true rfl) rfl rfl (Nat.le_of_ble_eq_true rfl) (wk_kd hW (by decide) (st_k hT 1 9 (by decide))) (S18 (Nat.le_trans (by decide) hd) hW hR hT hG (hR 6 7)) ?_
    refine p_callS (cc3 c25_21) (Nat.le_of_ble_eq_true rfl) rfl rfl (Nat.le_of_ble_eq_true rfl) (S24 (Nat.le_trans (by decide) hd) (rg_at hR)) ?_
    refine i_ifB (cc3 c25_24) (fun c => ?_) (fun c => ?_)
    · have h := h.1 c
      refine p_ald (cct c25_40 rfl) rfl ?_
      refine p_ald (cc3 c25_41) rfl ?_
      refine w_geti hW (v := A 6 7) (cc3 c25_42) (st_k hT 6 11 (by decide)) (ji := 7) rfl rfl ?_
      refine p_ald (cc3 c25_45) rfl ?_
      refine w_geti hW (v := A 6 6) (cc3 c25_46) (st_k hT 6 11 (by decide)) (ji := 6) rfl rfl ?_
      obtain ⟨g2, h⟩ := h
      refine (fun _ : Rg ((A 6 7) - (A 6 6)) => i_sub (cc3 c25_49) ?_) g2
      refine i_push (n := 4) (cc3 c25_50) zl_4 ?_
      refine i_icmp (c' := ((A 6 7) - (A 6 6)) ≤ 4) (cc3 c25_51) (iz_le g2 (by decide : Rg (4 : Int))) (fun c => ?_) (fun c => ?_)
      · have h := h.1 c
        refine i_push (n := 400) (cc3 c25_60) zl_400 ?_
        refine id (α := Rg 400 → _) (fun _ => ?_) (by decide : Rg (400 : Int)); refine w_puti hW (cct c25_63 rfl) (st_k hT 6 11 (by decide)) (ji := 4) rfl ?_
        refine p_ald (cc3 c25_66) rfl ?_
        refine i_push (n := 0) (cc3 c25_67) zl_0 ?_
        refine id (α := Rg 0 → _) (fun _ => ?_) (by decide : Rg (0 : Int)); refine w_puti hW (cc3 c25_68) (st_k hT 6 11 (by decide)) (ji := 5) rfl ?_
        refine p_ald (cc3 c25_71) rfl ?_
        refine w_geti hW (v := A 6 6) (cc3 c25_72) (st_k hT 6 11 (by decide)) (ji := 6) rfl (by first | rfl | exact UA_eq | exact UA_j (by decide) | exact UA_c (by decide)) ?_
        refine p_ist (ls' := [(1, .int (iz (A 6 6))), (0, .ref (lo W 6))]) (cc3 c25_75) (by decide) rfl ?_
        exact p_lc (ls' := [(0, .ref (lo W 6)), (1, .int (iz (A 6 6)))]) c25_76 rfl rfl h
      · have h := h.2 c
        refine i_push (n := 402) (cc3 c25_54) zl_402 ?_
        refine p_goto (cc3 c25_57) ?_
        refine id (α := Rg 402 → _) (fun _ => ?_) (by decide : Rg (402 : Int)); refine w_puti hW (cct c25_63 rfl) (st_k hT 6 11 (by decide)) (ji := 4) rfl ?_
        refine p_ald (cc3 c25_66) rfl ?_
        refine i_push (n := 0) (cc3 c25_67) zl_0 ?_
        refine id (α := Rg 0 → _) (fun _ => ?_) (by decide : Rg (0 : Int)); refine w_puti hW (cc3 c25_68) (st_k hT 6 11 (by decide)) (ji := 5) rfl ?_
        refine p_ald (cc3 c25_71) rfl ?_
        refine w_geti hW (v := A 6 6) (cc3 c25_72) (st_k hT 6 11 (by decide)) (ji := 6) rfl (by first | rfl | exact UA_eq | exact UA_j (by decide) | exact UA_c (by decide)) ?_
        refine p_ist (ls' := [(1, .int (iz (A 6 6))), (0, .ref (lo W 6))]) (cc3 c25_75) (by decide) rfl ?_
        exact p_lc (ls' := [(0, .ref (lo W 6)), (1, .int (iz (A 6 6)))]) c25_76 rfl rfl h
    · have h := h.2 c
      refine p_ald (cc3 c25_27) rfl ?_
      refine p_dup (cc3 c25_28) rfl ?_
      refine w_geti hW (v := A 6 7) (cc3 c25_29) (st_k hT 6 11 (by decide)) (ji := 7) rfl rfl ?_
      refine i_push (n := 1) (cc3 c25_32) zl_1 ?_
      obtain ⟨g2, h⟩ := h
      refine (fun _ : Rg ((A 6 7) + 1) => i_add (cc3 c25_33) ?_) g2
      refine id (α := Rg ((A 6 7) + 1) → _) (fun _ => ?_) g2; refine w_puti hW (cc3 c25_34) (st_k hT 6 11 (by decide)) (ji := 7) rfl ?_
      refine p_goto (cc3 c25_37) ?_
      exact h
theorem V25_76 {d : Nat} (hd : 1 ≤ d) {Q : Option Value → xM → Prop} {W : gW} (hW : HW W) {A : Nat → Int → Int} {P : Nat → Int → Nat} (hR : RG A) (hT : Stat W P) (hG : GL W) {x1 : Int} (rr : Rg x1) (h : ((((A 6 4) = 400) → ((((A 6 7) ≤ x1) → Q none (Wm W A P)) ∧ (¬ ((A 6 7) ≤ x1) → (Rg ((A 6 5) * 10)) ∧ (P 6 3 = 1 + 1) ∧ (Rg (((A 6 5) * 10) + (k_at A x1))) ∧ (Rg ((((A 6 5) * 10) + (k_at A x1)) - 48)) ∧ (Rg (x1 + 1)) ∧ wpE (xT 25) (xev xT d) Q (76, [(0, .ref (lo W 6)), (1, .int (iz (x1 + 1)))], [], Wm W (UA A 6 5 ((((A 6 5) * 10) + (k_at A x1)) - 48)) P)))) ∧ (¬ ((A 6 4) = 400) → Q none (Wm W A P)))) : wpE (xT 25) (xev xT d) Q (76, [(0, .ref (lo W 6)), (1, .int (iz x1))], [], Wm W A P) := by
  refine p_ald (cct c25_76 rfl) rfl ?_
  refine w_geti hW (v := A 6 4) (cc3 c25_77) (st_k hT 6 11 (by decide)) (ji := 4) rfl rfl ?_
  refine i_push (n := 400) (cc3 c25_80) zl_400 ?_
  refine i_icmp (c' := (A 6 4) = 400) (cc3 c25_83) (iz_inj (hR 6 4) (by decide : Rg (400 : Int))) (fun c => ?_) (fun c => ?_)
  · have h := h.1 c
    refine p_ild (cc3 c25_86) rfl ?_
    refine p_ald (cc3 c25_87) rfl ?_
    refine w_geti hW (v := A 6 7) (cc3 c25_88) (st_k hT 6 11 (by decide)) (ji := 7) rfl rfl ?_
    refine i_icmp (c' := (A 6 7) ≤ x1) (cc3 c25_91) (iz_le (hR 6 7) rr) (fun c => ?_) (fun c => ?_)
    · have h := h.1 c
      refine p_lc (ls' := []) c25_123 rfl rfl ?_
      exact p_rv (cct c25_123 rfl) h
    · have h := h.2 c
      refine p_ald (cc3 c25_94) rfl ?_
      refine p_ald (cc3 c25_95) rfl ?_
      refine w_geti hW (v := A 6 5) (cc3 c25_96) (st_k hT 6 11 (by decide)) (ji := 5) rfl rfl ?_
      refine i_push (n := 10) (cc3 c25_99) zl_10 ?_
      obtain ⟨g1, h⟩ := h
      refine (fun _ : Rg ((A 6 5) * 10) => i_mul (cc3 c25_101) ?_) g1
      refine p_ald (cc3 c25_102) rfl ?_
      obtain ⟨g2, h⟩ := h
      refine w_getp hW hT.1 (b := 1) (cc3 c25_103) (st_k hT 6 11 (by decide)) (ji := 3) rfl g2 ?_
      refine p_ild (cc3 c25_106) rfl ?_
      refine p_callV (cc3 c25_107) (Nat.le_of_ble_eq_true rfl) rfl rfl (Nat.le_of_ble_eq_true rfl) (wk_kd hW (by decide) (st_k hT 1 9 (by decide))) (S18 (Nat.le_trans (by decide) hd) hW hR hT hG rr) ?_
      obtain ⟨g3, h⟩ := h
      refine (fun _ : Rg (((A 6 5) * 10) + (k_at A x1)) => i_add (cc3 c25_110) ?_) g3
      refine i_push (n := 48) (cc3 c25_111) zl_48 ?_
      obtain ⟨g4, h⟩ := h
      refine (fun _ : Rg ((((A 6 5) * 10) + (k_at A x1)) - 48) => i_sub (cc3 c25_113) ?_) g4
      refine id (α := Rg ((((A 6 5) * 10) + (k_at A x1)) - 48) → _) (fun _ => ?_) g4; refine w_puti hW (cc3 c25_114) (st_k hT 6 11 (by decide)) (ji := 5) rfl ?_
      obtain ⟨g5, h⟩ := h
      refine (fun _ : Rg (x1 + 1) => i_iinc (n := 1) (y := x1 + 1) (ls' := [(1, .int (iz (x1 + 1))), (0, .ref (lo W 6))]) (cc3 c25_117) (by decide) rfl zl_1 (by first | rfl | omega) rfl ?_) g5
      refine p_goto (cc3 c25_120) ?_
      exact p_lc (ls' := [(0, .ref (lo W 6)), (1, .int (iz (x1 + 1)))]) c25_76 rfl rfl h
  · have h := h.2 c
    refine p_lc (ls' := []) c25_123 rfl rfl ?_
    exact p_rv (cct c25_123 rfl) h

theorem L25b {d : Nat} (hd : 1 ≤ d) {Q : Option Value → xM → Prop} {t : Int → Int} {W : gW} (hW : HW W) {A0 : Nat → Int → Int} {P : Nat → Int → Nat} (hT : Stat W P) (hG : GL W) (p1 : TpR A0 t) (p3 : P 6 3 = 1 + 1) {L : Nat} (hL : L ≤ 4) (p4 : 0 ≤ A0 6 6 ∧ A0 6 7 = A0 6 6 + L ∧ A0 6 7 ≤ A0 1 1) (hdg : ∀ i : Nat, i < L → 48 ≤ t (A0 6 6 + i) ∧ t (A0 6 6 + i) ≤ 57)
    (hQ : ∀ A', RG A' → Fo 6 [] [5] A0 A' → A' 6 5 = dv t (A0 6 6) L → Q none (Wm W A' P)) :
    ∀ (n k : Nat) (A : Nat → Int → Int), k + n = L → RG A → Fo 6 [] [5] A0 A → A 6 5 = dv t (A0 6 6) k → A0 6 4 = 400 → wpE (xT 25) (xev xT d) Q (76, [(0, .ref (lo W 6)), (1, .int (iz (A0 6 6 + k)))], [], Wm W A P) := by
  intro n
  induction n with
  | zero =>
    intro k A hk hR hF h5 h4
    have e : k = L := by omega
    subst e
    have e4 : A 6 4 = A0 6 4 := hF.2 4 (by decide)
    have e7 : A 6 7 = A0 6 7 := hF.2 7 (by decide)
    have hb := p1.1
    exact V25_76 hd hW hR hT hG ⟨by omega, by omega⟩ ⟨fun _ => ⟨fun _ => hQ A hR hF h5, fun c => absurd (by omega) c⟩, fun c => absurd (e4.trans h4) c⟩
  | succ n ih =>
    intro k A hk hR hF h5 h4
    have r : ∀ c, ¬ c = 6 → A c = A0 c := fun c h => hF.1 c (by simp) h
    have e4 : A 6 4 = A0 6 4 := hF.2 4 (by decide)
    have e7 : A 6 7 = A0 6 7 := hF.2 7 (by decide)
    have hb := p1.1
    have k1 : k_at A (A0 6 6 + k) = t (A0 6 6 + k) % 256 ∧ -128 ≤ t (A0 6 6 + k) ∧ t (A0 6 6 + k) ≤ 127 := by
      have e : k_at A = k_at A0 := by funext p; unfold k_at; rw [r 1 (by decide), r 2 (by decide)]
      rw [e]; exact (p1.at (by omega)).2 (by omega)
    have hd1 := hdg k (by omega)
    have hdv := dv_b4 (t := t) (p := A0 6 6) k (by omega) (fun i hi => hdg i (by omega))
    have hdv2 := hdv.2.1 (by omega)
    have ek : k_at A (A0 6 6 + k) = t (A0 6 6 + k) := by omega
    refine V25_76 hd hW hR hT hG ⟨by omega, by omega⟩ ⟨fun _ => ⟨fun c => absurd c (by omega), fun _ => ?_⟩, fun c => absurd (e4.trans h4) c⟩
    rw [ek, h5]
    refine ⟨⟨by omega, by omega⟩, p3, ⟨by omega, by omega⟩, ⟨by omega, by omega⟩, ⟨by omega, by omega⟩, ?_⟩
    have := ih (k + 1) (UA A 6 5 (dv t (A0 6 6) k * 10 + t (A0 6 6 + k) - 48)) (by omega) (rg_UA hR ⟨by omega, by omega⟩) (hF.fld (by decide)) (by
      rw [UA_eq]
      show _ = 10 * dv t (A0 6 6) k + t (A0 6 6 + k) - 48
      omega) h4
    rw [show A0 6 6 + ((k + 1 : Nat) : Int) = A0 6 6 + k + 1 by omega] at this
    exact this
theorem L25a {d : Nat} (hd : 1 ≤ d) {Q : Option Value → xM → Prop} {t : Int → Int} {W : gW} (hW : HW W) {A0 : Nat → Int → Int} {P : Nat → Int → Nat} (hT : Stat W P) (hG : GL W) (p1 : TpR A0 t) (p3 : P 6 3 = 1 + 1) (p4 : 0 ≤ A0 6 6 ∧ A0 6 6 + 1 ≤ A0 6 7 ∧ A0 6 7 ≤ A0 1 1)
    (hQ : ∀ A', RG A' → Fo 6 [] [4, 5, 7] A0 A' → A' 6 7 = skf isDi t (A0 1 1) (A0 6 7) → (A' 6 4 = if A' 6 7 - A0 6 6 ≤ 4 then 400 else 402) → (A' 6 7 - A0 6 6 ≤ 4 → A' 6 5 = dv t (A0 6 6) (A' 6 7 - A0 6 6).toNat) → Q none (Wm W A' P)) :
    ∀ (n : Nat) (A : Nat → Int → Int), A0 1 1 - A 6 7 = n → RG A → Fo 6 [] [7] A0 A → A0 6 7 ≤ A 6 7 → (∀ i : Int, A0 6 6 ≤ i → i < A 6 7 → 48 ≤ t i ∧ t i ≤ 57) → skf isDi t (A0 1 1) (A 6 7) = skf isDi t (A0 1 1) (A0 6 7) → wpE (xT 25) (xev xT d) Q (0, [(0, .ref (lo W 6))], [], Wm W A P) := by
  have fin : ∀ A : Nat → Int → Int, RG A → Fo 6 [] [7] A0 A → A0 6 7 ≤ A 6 7 → A 6 7 ≤ A0 1 1 → (∀ i : Int, A0 6 6 ≤ i → i < A 6 7 → 48 ≤ t i ∧ t i ≤ 57) → A 6 7 = skf isDi t (A0 1 1) (A0 6 7) → (Rg ((A 6 7) - (A 6 6))) ∧ (((((A 6 7) - (A 6 6)) ≤ 4) → wpE (xT 25) (xev xT d) Q (76, [(0, .ref (lo W 6)), (1, .int (iz (A 6 6)))], [], Wm W (UA (UA A 6 4 400) 6 5 0) P)) ∧ (¬ (((A 6 7) - (A 6 6)) ≤ 4) → wpE (xT 25) (xev xT d) Q (76, [(0, .ref (lo W 6)), (1, .int (iz (A 6 6)))], [], Wm W (UA (UA A 6 4 402) 6 5 0) P))) := by
    intro A hR hF h67 h1 hdg hE
    have r : ∀ c, ¬ c = 6 → A c = A0 c := fun c h => hF.1 c (by simp) h
    have e6 : A 6 6 = A0 6 6 := hF.2 6 (by decide)
    have hb := p1.1
    have tp : ∀ v, TpR (UA (UA A 6 4 v) 6 5 0) t := fun v => by
      refine ⟨?_, p1.2.1, ?_⟩
      · show 0 ≤ A 1 1 ∧ A 1 1 ≤ 160; rw [r 1 (by decide)]; exact p1.1
      · show ∀ i : Int, 0 ≤ i → i < A 1 1 → A 2 i = t i % 256; rw [r 1 (by decide), r 2 (by decide)]; exact p1.2.2
    have F4 : ∀ v, Fo 6 [] [4, 5, 7] A0 (UA (UA A 6 4 v) 6 5 0) := fun v => ((hF.mono (by simp) (fun j h => by revert h; simp; omega)).fld (by decide)).fld (by decide)
    refine ⟨⟨by omega, by omega⟩, fun c => ?_, fun c => ?_⟩
    · have q6 : (UA (UA A 6 4 400) 6 5 0) 6 6 = A 6 6 := rfl
      have q7 : (UA (UA A 6 4 400) 6 5 0) 6 7 = A 6 7 := rfl
      have q1 : (UA (UA A 6 4 400) 6 5 0) 1 1 = A0 1 1 := by show A 1 1 = _; rw [r 1 (by decide)]
      have := L25b hd hW hT hG (tp 400) p3 (L := (A 6 7 - A0 6 6).toNat) (by omega) (by rw [q6, q7, q1]; omega) (fun i hi => by rw [q6, e6]; exact hdg _ (by omega) (by omega)) (Q := Q) (fun A' hR' hF' h5 => ?_) (A 6 7 - A0 6 6).toNat 0 _ (Nat.zero_add _) (rg_UA (rg_UA hR (by decide)) (by decide)) Fo.rf rfl rfl
      · rw [q6, show A 6 6 + ((0 : Nat) : Int) = A 6 6 by omega] at this; exact this
      · have e7 : A' 6 7 = A 6 7 := hF'.2 7 (by decide)
        have e4 : A' 6 4 = 400 := hF'.2 4 (by decide)
        rw [q6, e6] at h5
        refine hQ A' hR' ((F4 400).tr (hF'.mono (by simp) (fun j h => by revert h; simp; omega))) (by rw [e7, hE]) (by rw [e4, e7, if_pos (by omega)]) (fun _ => by rw [h5, e7])
    · have e := V25_76 (Q := Q) hd hW (rg_UA (rg_UA hR (by decide)) (by decide) : RG (UA (UA A 6 4 402) 6 5 0)) hT hG (x1 := A 6 6) (hR _ _) ⟨fun c2 => absurd (show (402 : Int) = 400 from c2) (by decide), fun _ => hQ _ (rg_UA (rg_UA hR (by decide)) (by decide)) (F4 402) hE (by show (402 : Int) = if A 6 7 - A0 6 6 ≤ 4 then 400 else 402; rw [if_neg (by omega)]) (fun q => absurd (show A 6 7 - A0 6 6 ≤ 4 from q) (by omega))⟩
      exact e
  intro n
  induction n with
  | zero =>
    intro A hn hR hF h67 hdg hE
    have r : ∀ c, ¬ c = 6 → A c = A0 c := fun c h => hF.1 c (by simp) h
    have hb := p1.1
    have k1 : k_at A (A 6 7) = -1 := by unfold k_at; rw [r 1 (by decide), if_pos (by omega)]
    have hEE : A 6 7 = skf isDi t (A0 1 1) (A0 6 7) := by rw [← hE, skf_e (by omega)]
    have := fin A hR hF h67 (by omega) hdg hEE
    refine V25_0 hd hW hR hT hG ⟨fun _ => this, fun _ => ⟨p3, fun _ => this, fun c => ?_⟩⟩
    rw [k1] at c; omega
  | succ n ih =>
    intro A hn hR hF h67 hdg hE
    have r : ∀ c, ¬ c = 6 → A c = A0 c := fun c h => hF.1 c (by simp) h
    have hb := p1.1
    have k1 : k_at A (A 6 7) = t (A 6 7) % 256 ∧ -128 ≤ t (A 6 7) ∧ t (A 6 7) ≤ 127 := by
      have e : k_at A = k_at A0 := by funext p; unfold k_at; rw [r 1 (by decide), r 2 (by decide)]
      rw [e]; exact (p1.at (by omega)).2 (by omega)
    have hs := skf_s (P := isDi) (t := t) (n := A0 1 1) (p := A 6 7) (by omega)
    refine V25_0 hd hW hR hT hG ⟨fun c => absurd c (by omega), fun _ => ⟨p3, fun c => ?_, fun c => ⟨⟨by omega, by omega⟩, ?_⟩⟩⟩
    · rw [k1.1] at c
      rw [if_neg (by unfold isDi; rw [decide_eq_true_iff]; omega)] at hs
      exact fin A hR hF h67 (by omega) hdg (by rw [← hE, hs])
    · rw [k1.1] at c
      rw [if_pos (by unfold isDi; rw [decide_eq_true_iff]; omega)] at hs
      have e7 : (UA A 6 7 (A 6 7 + 1)) 6 7 = A 6 7 + 1 := UA_eq
      refine ih _ (by rw [e7]; omega) (rg_UA hR ⟨by omega, by omega⟩) (hF.fld (by decide)) (by rw [e7]; omega) (fun i i1 i2 => ?_) (by rw [e7, ← hs, hE])
      rw [e7] at i2
      by_cases e : i = A 6 7
      · subst e; omega
      · exact hdg i i1 (by omega)
theorem S25 {d : Nat} (hd : 2 ≤ d) {W : gW} (hW : HW W) {A : Nat → Int → Int} {P : Nat → Int → Nat} (hR : RG A) (hT : Stat W P) (hG : GL W) (t : Int → Int) (hp : (TpR A t) ∧ (P 6 3 = 1 + 1) ∧ (0 ≤ A 6 6 ∧ A 6 7 = A 6 6 + 1 ∧ A 6 7 ≤ A 1 1) ∧ (48 ≤ t (A 6 6) ∧ t (A 6 6) ≤ 57)) : ∃ (A' : Nat → Int → Int), xev xT d 25 [.ref (lo W 6)] (Wm W A P) none (Wm W A' P) ∧ RG A' ∧ (Fo 6 [] [4, 5, 7] A A' ∧ A' 6 7 = skf isDi t (A 1 1) (A 6 7) ∧ A' 6 4 = (if A' 6 7 - A 6 6 ≤ 4 then 400 else 402) ∧ (A' 6 7 - A 6 6 ≤ 4 → A' 6 5 = dv t (A 6 6) (A' 6 7 - A 6 6).toNat)) := by
  refine xev_g (i := 25) (as := [.ref (lo W 6)]) (σ := Wm W A P) (Q := fun r_ σ_ => ∃ (A' : Nat → Int → Int), r_ = none ∧ σ_ = Wm W A' P ∧ RG A' ∧ (Fo 6 [] [4, 5, 7] A A' ∧ A' 6 7 = skf isDi t (A 1 1) (A 6 7) ∧ A' 6 4 = (if A' 6 7 - A 6 6 ≤ 4 then 400 else 402) ∧ (A' 6 7 - A 6 6 ≤ 4 → A' 6 5 = dv t (A 6 6) (A' 6 7 - A 6 6).toNat))) (D := 1) hd (Nat.le_of_ble_eq_true rfl) (fun r_ σ_ he hq => ?_) (fun d hd => ?_)
  · obtain ⟨A', rfl, rfl, hq⟩ := hq
    exact ⟨A', he, hq⟩

  obtain ⟨p1, p3, p4, p5⟩ := hp
  refine L25a hd hW hT hG p1 p3 (by omega) (fun A' h1 h2 h3 h4 h5 => ⟨A', rfl, rfl, h1, h2, h3, h4, h5⟩) (A 1 1 - A 6 7).toNat A (by omega) hR Fo.rf (Int.le_refl _) (fun i i1 i2 => ?_) rfl
  rw [show i = A 6 6 by omega]; exact p5
/-- the token from p on stands in KiltRoom's fields -/
def KCur (A : Nat → Int → Int) (t : Int → Int) (n p : Int) : Prop := A 6 6 = tkB t n p ∧ A 6 4 = tkC t n p ∧ (¬ tkC t n p = 401 → A 6 7 = tkE t n p) ∧ (tkC t n p = 400 → A 6 5 = tkV t n p)
theorem isSg_256 {v : Int} (h : -128 ≤ v ∧ v ≤ 127) : (isSg (v % 256) ↔ isSg v) ∧ (isSg v → v % 256 = v) := by
  unfold isSg
  refine ⟨⟨fun q => ?_, fun q => ?_⟩, fun q => ?_⟩ <;> omega
theorem V17_0 {d : Nat} (hd : 6 ≤ d) {Q : Option Value → xM → Prop} {t : Int → Int} {W : gW} (hW : HW W) {A : Nat → Int → Int} {P : Nat → Int → Nat} (hR : RG A) (hT : Stat W P) (hG : GL W) (h : ((((A 6 8) = (-1)) → wpE (xT 17) (xev xT d) Q (17, [(0, .ref (lo W 6))], [], Wm W (UA A 6 6 (A 6 7)) P)) ∧ (¬ ((A 6 8) = (-1)) → Q none (Wm W A P)))) : wpE (xT 17) (xev xT d) Q (0, [(0, .ref (lo W 6))], [], Wm W A P) := by
  refine p_ald (cc3 c17_0) rfl ?_
  refine w_geti hW (v := A 6 8) (cc3 c17_1) (st_k hT 6 11 (by decide)) (ji := 8) rfl rfl ?_
  refine i_push (n := (-1)) (cc3 c17_4) zl_m1 ?_
  refine i_icmp (c' := (A 6 8) = (-1)) (cc3 c17_5) (iz_inj (hR 6 8) (by decide : Rg (-1 : Int))) (fun c => ?_) (fun c => ?_)
  · have h := h.1 c
    refine p_ald (cc3 c17_9) rfl ?_
    refine p_ald (cc3 c17_10) rfl ?_
    refine w_geti hW (v := A 6 7) (cc3 c17_11) (st_k hT 6 11 (by decide)) (ji := 7) rfl rfl ?_
    refine id (α := Rg (A 6 7) → _) (fun _ => ?_) (hR 6 7); refine w_puti hW (cc3 c17_14) (st_k hT 6 11 (by decide)) (ji := 6) rfl ?_
    exact h
  · have h := h.2 c
    exact p_rv (cc3 c17_8) h
theorem V17_17 {d : Nat} (hd : 6 ≤ d) {Q : Option Value → xM → Prop} {t : Int → Int} {W : gW} (hW : HW W) {A : Nat → Int → Int} {P : Nat → Int → Nat} (hR : RG A) (hT : Stat W P) (hG : GL W) (h : (((160 ≤ (A 6 6)) → (P 6 3 = 1 + 1) ∧ (Rg ((A 6 6) + 1)) ∧ ((((k_at A (A 6 6)) = (-1)) → Q none (Wm W (UA (UA A 6 7 ((A 6 6) + 1)) 6 4 401) P)) ∧ (¬ ((k_at A (A 6 6)) = (-1)) → ((¬ (97 ≤ (k_at A (A 6 6)) ∧ (k_at A (A 6 6)) ≤ 122) → ((¬ (48 ≤ (k_at A (A 6 6)) ∧ (k_at A (A 6 6)) ≤ 57) → ((¬ (isSg (k_at A (A 6 6))) → Q none (Wm W (UA (UA A 6 7 ((A 6 6) + 1)) 6 4 402) P)) ∧ ((isSg (k_at A (A 6 6))) → Q none (Wm W (UA (UA A 6 7 ((A 6 6) + 1)) 6 4 (k_at A (A 6 6))) P)))) ∧ ((48 ≤ (k_at A (A 6 6)) ∧ (k_at A (A 6 6)) ≤ 57) → (TpR (UA A 6 7 ((A 6 6) + 1)) t) ∧ (0 ≤ (UA A 6 7 ((A 6 6) + 1)) 6 6 ∧ (UA A 6 7 ((A 6 6) + 1)) 6 7 = (UA A 6 7 ((A 6 6) + 1)) 6 6 + 1 ∧ (UA A 6 7 ((A 6 6) + 1)) 6 7 ≤ (UA A 6 7 ((A 6 6) + 1)) 1 1) ∧ (48 ≤ t ((UA A 6 7 ((A 6 6) + 1)) 6 6) ∧ t ((UA A 6 7 ((A 6 6) + 1)) 6 6) ≤ 57) ∧ (∀ (A_1 : Nat → Int → Int), RG A_1 → (Fo 6 [] [4, 5, 7] (UA A 6 7 ((A 6 6) + 1)) A_1 ∧ A_1 6 7 = skf isDi t ((UA A 6 7 ((A 6 6) + 1)) 1 1) ((UA A 6 7 ((A 6 6) + 1)) 6 7) ∧ A_1 6 4 = (if A_1 6 7 - (UA A 6 7 ((A 6 6) + 1)) 6 6 ≤ 4 then 400 else 402) ∧ (A_1 6 7 - (UA A 6 7 ((A 6 6) + 1)) 6 6 ≤ 4 → A_1 6 5 = dv t ((UA A 6 7 ((A 6 6) + 1)) 6 6) (A_1 6 7 - (UA A 6 7 ((A 6 6) + 1)) 6 6).toNat)) → Q none (Wm W A_1 P))))) ∧ ((97 ≤ (k_at A (A 6 6)) ∧ (k_at A (A 6 6)) ≤ 122) → (TpR (UA A 6 7 ((A 6 6) + 1)) t) ∧ (StrA (UA A 6 7 ((A 6 6) + 1))) ∧ (0 ≤ (UA A 6 7 ((A 6 6) + 1)) 6 6 ∧ (UA A 6 7 ((A 6 6) + 1)) 6 6 < (UA A 6 7 ((A 6 6) + 1)) 6 7 ∧ (UA A 6 7 ((A 6 6) + 1)) 6 7 ≤ (UA A 6 7 ((A 6 6) + 1)) 1 1) ∧ (∀ (A_1 : Nat → Int → Int), RG A_1 → (Fo 6 [] [4, 7] (UA A 6 7 ((A 6 6) + 1)) A_1 ∧ A_1 6 7 = skf isLe t ((UA A 6 7 ((A 6 6) + 1)) 1 1) ((UA A 6 7 ((A 6 6) + 1)) 6 7) ∧ A_1 6 4 = if wkT t ((UA A 6 7 ((A 6 6) + 1)) 6 6) (A_1 6 7) = -1 then 402 else 200 + wkT t ((UA A 6 7 ((A 6 6) + 1)) 6 6) (A_1 6 7)) → Q none (Wm W A_1 P))))))) ∧ (¬ (160 ≤ (A 6 6)) → (P 6 3 = 1 + 1) ∧ ((¬ ((k_at A (A 6 6)) = 32 ∨ (k_at A (A 6 6)) = 10) → (Rg ((A 6 6) + 1)) ∧ ((((k_at A (A 6 6)) = (-1)) → Q none (Wm W (UA (UA A 6 7 ((A 6 6) + 1)) 6 4 401) P)) ∧ (¬ ((k_at A (A 6 6)) = (-1)) → ((¬ (97 ≤ (k_at A (A 6 6)) ∧ (k_at A (A 6 6)) ≤ 122) → ((¬ (48 ≤ (k_at A (A 6 6)) ∧ (k_at A (A 6 6)) ≤ 57) → ((¬ (isSg (k_at A (A 6 6))) → Q none (Wm W (UA (UA A 6 7 ((A 6 6) + 1)) 6 4 402) P)) ∧ ((isSg (k_at A (A 6 6))) → Q none (Wm W (UA (UA A 6 7 ((A 6 6) + 1)) 6 4 (k_at A (A 6 6))) P)))) ∧ ((48 ≤ (k_at A (A 6 6)) ∧ (k_at A (A 6 6)) ≤ 57) → (TpR (UA A 6 7 ((A 6 6) + 1)) t) ∧ (0 ≤ (UA A 6 7 ((A 6 6) + 1)) 6 6 ∧ (UA A 6 7 ((A 6 6) + 1)) 6 7 = (UA A 6 7 ((A 6 6) + 1)) 6 6 + 1 ∧ (UA A 6 7 ((A 6 6) + 1)) 6 7 ≤ (UA A 6 7 ((A 6 6) + 1)) 1 1) ∧ (48 ≤ t ((UA A 6 7 ((A 6 6) + 1)) 6 6) ∧ t ((UA A 6 7 ((A 6 6) + 1)) 6 6) ≤ 57) ∧ (∀ (A_1 : Nat → Int → Int), RG A_1 → (Fo 6 [] [4, 5, 7] (UA A 6 7 ((A 6 6) + 1)) A_1 ∧ A_1 6 7 = skf isDi t ((UA A 6 7 ((A 6 6) + 1)) 1 1) ((UA A 6 7 ((A 6 6) + 1)) 6 7) ∧ A_1 6 4 = (if A_1 6 7 - (UA A 6 7 ((A 6 6) + 1)) 6 6 ≤ 4 then 400 else 402) ∧ (A_1 6 7 - (UA A 6 7 ((A 6 6) + 1)) 6 6 ≤ 4 → A_1 6 5 = dv t ((UA A 6 7 ((A 6 6) + 1)) 6 6) (A_1 6 7 - (UA A 6 7 ((A 6 6) + 1)) 6 6).toNat)) → Q none (Wm W A_1 P))))) ∧ ((97 ≤ (k_at A (A 6 6)) ∧ (k_at A (A 6 6)) ≤ 122) → (TpR (UA A 6 7 ((A 6 6) + 1)) t) ∧ (StrA (UA A 6 7 ((A 6 6) + 1))) ∧ (0 ≤ (UA A 6 7 ((A 6 6) + 1)) 6 6 ∧ (UA A 6 7 ((A 6 6) + 1)) 6 6 < (UA A 6 7 ((A 6 6) + 1)) 6 7 ∧ (UA A 6 7 ((A 6 6) + 1)) 6 7 ≤ (UA A 6 7 ((A 6 6) + 1)) 1 1) ∧ (∀ (A_1 : Nat → Int → Int), RG A_1 → (Fo 6 [] [4, 7] (UA A 6 7 ((A 6 6) + 1)) A_1 ∧ A_1 6 7 = skf isLe t ((UA A 6 7 ((A 6 6) + 1)) 1 1) ((UA A 6 7 ((A 6 6) + 1)) 6 7) ∧ A_1 6 4 = if wkT t ((UA A 6 7 ((A 6 6) + 1)) 6 6) (A_1 6 7) = -1 then 402 else 200 + wkT t ((UA A 6 7 ((A 6 6) + 1)) 6 6) (A_1 6 7)) → Q none (Wm W A_1 P))))))) ∧ (((k_at A (A 6 6)) = 32 ∨ (k_at A (A 6 6)) = 10) → (Rg ((A 6 6) + 1)) ∧ wpE (xT 17) (xev xT d) Q (17, [(0, .ref (lo W 6))], [], Wm W (UA A 6 6 ((A 6 6) + 1)) P)))))) : wpE (xT 17) (xev xT d) Q (17, [(0, .ref (lo W 6))], [], Wm W A P) := by
  refine p_ald (cct c17_17 rfl) rfl ?_
  refine w_geti hW (v := A 6 6) (cc3 c17_18) (st_k hT 6 11 (by decide)) (ji := 6) rfl rfl ?_
  refine i_push (n := 160) (cc3 c17_21) zl_160 ?_
  refine i_icmp (c' := 160 ≤ (A 6 6)) (cc3 c17_24) (iz_le (by decide : Rg (160 : Int)) (hR 6 6)) (fun c => ?_) (fun c => ?_)
  · have h := h.1 c
    refine p_ald (cct c17_57 rfl) rfl ?_
    obtain ⟨g1, h⟩ := h
    refine w_getp hW hT.1 (b := 1) (cc3 c17_58) (st_k hT 6 11 (by decide)) (ji := 3) rfl g1 ?_
    refine p_ald (cc3 c17_61) rfl ?_
    refine w_geti hW (v := A 6 6) (cc3 c17_62) (st_k hT 6 11 (by decide)) (ji := 6) rfl rfl ?_
    refine p_callV (cc3 c17_65) (Nat.le_of_ble_eq_true rfl) rfl rfl (Nat.le_of_ble_eq_true rfl) (wk_kd hW (by decide) (st_k hT 1 9 (by decide))) (S18 (Nat.le_trans (by decide) hd) hW hR hT hG (hR 6 6)) ?_
    refine p_ist (ls' := [(1, .int (iz (k_at A (A 6 6)))), (0, .ref (lo W 6))]) (cc3 c17_68) (by decide) rfl ?_
    refine p_ald (cc3 c17_69) rfl ?_
    refine p_ald (cc3 c17_70) rfl ?_
    refine w_geti hW (v := A 6 6) (cc3 c17_71) (st_k hT 6 11 (by decide)) (ji := 6) rfl rfl ?_
    refine i_push (n := 1) (cc3 c17_74) zl_1 ?_
    obtain ⟨g2, h⟩ := h
    refine (fun _ : Rg ((A 6 6) + 1) => i_add (cc3 c17_75) ?_) g2
    refine id (α := Rg ((A 6 6) + 1) → _) (fun _ => ?_) g2; refine w_puti hW (cc3 c17_76) (st_k hT 6 11 (by decide)) (ji := 7) rfl ?_
    refine p_ild (cc3 c17_79) rfl ?_
    refine i_push (n := (-1)) (cc3 c17_80) zl_m1 ?_
    refine i_icmp (c' := (k_at A (A 6 6)) = (-1)) (cc3 c17_81) (iz_inj (rg_at hR) (by decide : Rg (-1 : Int))) (fun c => ?_) (fun c => ?_)
    · have h := h.1 c
      refine p_ald (cc3 c17_84) rfl ?_
      refine i_push (n := 401) (cc3 c17_85) zl_401 ?_
      refine id (α := Rg 401 → _) (fun _ => ?_) (by decide : Rg (401 : Int)); refine w_puti hW (cc3 c17_88) (st_k hT 6 11 (by decide)) (ji := 4) rfl ?_
      refine p_goto (cc3 c17_91) ?_
      refine p_lc (ls' := []) c17_140 rfl rfl ?_
      exact p_rv (cct c17_140 rfl) h
    · have h := h.2 c
      refine p_ild (cc3 c17_94) rfl ?_
      refine p_callS (cc3 c17_95) (Nat.le_of_ble_eq_true rfl) rfl rfl (Nat.le_of_ble_eq_true rfl) (S20 (Nat.le_trans (by decide) hd) (rg_at hR)) ?_
      refine i_ifB (cc3 c17_98) (fun c => ?_) (fun c => ?_)
      · have h := h.1 c
        refine p_ild (cc3 c17_108) rfl ?_
        refine p_callS (cc3 c17_109) (Nat.le_of_ble_eq_true rfl) rfl rfl (Nat.le_of_ble_eq_true rfl) (S24 (Nat.le_trans (by decide) hd) (rg_at hR)) ?_
        refine i_ifB (cc3 c17_112) (fun c => ?_) (fun c => ?_)
        · have h := h.1 c
          refine p_ald (cc3 c17_122) rfl ?_
          refine p_ild (cc3 c17_123) rfl ?_
          refine p_callS (cc3 c17_124) (Nat.le_of_ble_eq_true rfl) rfl rfl (Nat.le_of_ble_eq_true rfl) (S26 (Nat.le_trans (by decide) hd) (rg_at hR)) ?_
          refine i_ifB (cc3 c17_127) (fun c => ?_) (fun c => ?_)
          · have h := h.1 c
            refine i_push (n := 402) (cc3 c17_134) zl_402 ?_
            refine p_lc (ls' := []) c17_137 rfl rfl ?_
            refine id (α := Rg 402 → _) (fun _ => ?_) (by decide : Rg (402 : Int)); refine w_puti hW (cct c17_137 rfl) (st_k hT 6 11 (by decide)) (ji := 4) rfl ?_
            exact p_rv (cct c17_140 rfl) h
          · have h := h.2 c
            refine p_ild (cc3 c17_130) rfl ?_
            refine p_goto (cc3 c17_131) ?_
            refine p_lc (ls' := []) c17_137 rfl rfl ?_
            refine id (α := Rg (k_at A (A 6 6)) → _) (fun _ => ?_) (rg_at hR); refine w_puti hW (cct c17_137 rfl) (st_k hT 6 11 (by decide)) (ji := 4) rfl ?_
            exact p_rv (cct c17_140 rfl) h
        · have h := h.2 c
          refine p_ald (cc3 c17_115) rfl ?_
          obtain ⟨g3, h⟩ := h
          obtain ⟨g4, h⟩ := h
          obtain ⟨g5, h⟩ := h
          obtain ⟨A_1, he, hR_1, hp_1⟩ := S25 (A := UA A 6 7 ((A 6 6) + 1)) (P := P) (Nat.le_trans (by decide) hd) hW (rg_UA hR g2) hT hG t ⟨g3, g1, g4, g5⟩
          have h := h A_1 hR_1 hp_1
          refine p_callV (cc3 c17_116) (Nat.le_of_ble_eq_true rfl) rfl rfl (Nat.le_of_ble_eq_true rfl) (wk_kd hW (by decide) (st_k hT 6 11 (by decide))) he ?_
          refine p_goto (cc3 c17_119) ?_
          refine p_lc (ls' := []) c17_140 rfl rfl ?_
          exact p_rv (cct c17_140 rfl) h
      · have h := h.2 c
        refine p_ald (cc3 c17_101) rfl ?_
        obtain ⟨g3, h⟩ := h
        obtain ⟨g4, h⟩ := h
        obtain ⟨g5, h⟩ := h
        obtain ⟨A_1, he, hR_1, hp_1⟩ := S21 (A := UA A 6 7 ((A 6 6) + 1)) (P := P) (Nat.le_trans (by decide) hd) hW (rg_UA hR g2) hT hG t ⟨g3, g4, g1, g5⟩
        have h := h A_1 hR_1 hp_1
        refine p_callV (cc3 c17_102) (Nat.le_of_ble_eq_true rfl) rfl rfl (Nat.le_of_ble_eq_true rfl) (wk_kd hW (by decide) (st_k hT 6 11 (by decide))) he ?_
        refine p_goto (cc3 c17_105) ?_
        refine p_lc (ls' := []) c17_140 rfl rfl ?_
        exact p_rv (cct c17_140 rfl) h
  · have h := h.2 c
    refine p_ald (cc3 c17_27) rfl ?_
    obtain ⟨g1, h⟩ := h
    refine w_getp hW hT.1 (b := 1) (cc3 c17_28) (st_k hT 6 11 (by decide)) (ji := 3) rfl g1 ?_
    refine p_ald (cc3 c17_31) rfl ?_
    refine w_geti hW (v := A 6 6) (cc3 c17_32) (st_k hT 6 11 (by decide)) (ji := 6) rfl rfl ?_
    refine p_callV (cc3 c17_35) (Nat.le_of_ble_eq_true rfl) rfl rfl (Nat.le_of_ble_eq_true rfl) (wk_kd hW (by decide) (st_k hT 1 9 (by decide))) (S18 (Nat.le_trans (by decide) hd) hW hR hT hG (hR 6 6)) ?_
    refine p_callS (cc3 c17_38) (Nat.le_of_ble_eq_true rfl) rfl rfl (Nat.le_of_ble_eq_true rfl) (S19 (Nat.le_trans (by decide) hd) (rg_at hR)) ?_
    refine i_ifB (cc3 c17_41) (fun c => ?_) (fun c => ?_)
    · have h := h.1 c
      refine p_ald (cct c17_57 rfl) rfl ?_
      refine w_getp hW hT.1 (b := 1) (cc3 c17_58) (st_k hT 6 11 (by decide)) (ji := 3) rfl g1 ?_
      refine p_ald (cc3 c17_61) rfl ?_
      refine w_geti hW (v := A 6 6) (cc3 c17_62) (st_k hT 6 11 (by decide)) (ji := 6) rfl rfl ?_
      refine p_callV (cc3 c17_65) (Nat.le_of_ble_eq_true rfl) rfl rfl (Nat.le_of_ble_eq_true rfl) (wk_kd hW (by decide) (st_k hT 1 9 (by decide))) (S18 (Nat.le_trans (by decide) hd) hW hR hT hG (hR 6 6)) ?_
      refine p_ist (ls' := [(1, .int (iz (k_at A (A 6 6)))), (0, .ref (lo W 6))]) (cc3 c17_68) (by decide) rfl ?_
      refine p_ald (cc3 c17_69) rfl ?_
      refine p_ald (cc3 c17_70) rfl ?_
      refine w_geti hW (v := A 6 6) (cc3 c17_71) (st_k hT 6 11 (by decide)) (ji := 6) rfl rfl ?_
      refine i_push (n := 1) (cc3 c17_74) zl_1 ?_
      obtain ⟨g2, h⟩ := h
      refine (fun _ : Rg ((A 6 6) + 1) => i_add (cc3 c17_75) ?_) g2
      refine id (α := Rg ((A 6 6) + 1) → _) (fun _ => ?_) g2; refine w_puti hW (cc3 c17_76) (st_k hT 6 11 (by decide)) (ji := 7) rfl ?_
      refine p_ild (cc3 c17_79) rfl ?_
      refine i_push (n := (-1)) (cc3 c17_80) zl_m1 ?_
      refine i_icmp (c' := (k_at A (A 6 6)) = (-1)) (cc3 c17_81) (iz_inj (rg_at hR) (by decide : Rg (-1 : Int))) (fun c => ?_) (fun c => ?_)
      · have h := h.1 c
        refine p_ald (cc3 c17_84) rfl ?_
        refine i_push (n := 401) (cc3 c17_85) zl_401 ?_
        refine id (α := Rg 401 → _) (fun _ => ?_) (by decide : Rg (401 : Int)); refine w_puti hW (cc3 c17_88) (st_k hT 6 11 (by decide)) (ji := 4) rfl ?_
        refine p_goto (cc3 c17_91) ?_
        refine p_lc (ls' := []) c17_140 rfl rfl ?_
        exact p_rv (cct c17_140 rfl) h
      · have h := h.2 c
        refine p_ild (cc3 c17_94) rfl ?_
        refine p_callS (cc3 c17_95) (Nat.le_of_ble_eq_true rfl) rfl rfl (Nat.le_of_ble_eq_true rfl) (S20 (Nat.le_trans (by decide) hd) (rg_at hR)) ?_
        refine i_ifB (cc3 c17_98) (fun c => ?_) (fun c => ?_)
        · have h := h.1 c
          refine p_ild (cc3 c17_108) rfl ?_
          refine p_callS (cc3 c17_109) (Nat.le_of_ble_eq_true rfl) rfl rfl (Nat.le_of_ble_eq_true rfl) (S24 (Nat.le_trans (by decide) hd) (rg_at hR)) ?_
          refine i_ifB (cc3 c17_112) (fun c => ?_) (fun c => ?_)
          · have h := h.1 c
            refine p_ald (cc3 c17_122) rfl ?_
            refine p_ild (cc3 c17_123) rfl ?_
            refine p_callS (cc3 c17_124) (Nat.le_of_ble_eq_true rfl) rfl rfl (Nat.le_of_ble_eq_true rfl) (S26 (Nat.le_trans (by decide) hd) (rg_at hR)) ?_
            refine i_ifB (cc3 c17_127) (fun c => ?_) (fun c => ?_)
            · have h := h.1 c
              refine i_push (n := 402) (cc3 c17_134) zl_402 ?_
              refine p_lc (ls' := []) c17_137 rfl rfl ?_
              refine id (α := Rg 402 → _) (fun _ => ?_) (by decide : Rg (402 : Int)); refine w_puti hW (cct c17_137 rfl) (st_k hT 6 11 (by decide)) (ji := 4) rfl ?_
              exact p_rv (cct c17_140 rfl) h
            · have h := h.2 c
              refine p_ild (cc3 c17_130) rfl ?_
              refine p_goto (cc3 c17_131) ?_
              refine p_lc (ls' := []) c17_137 rfl rfl ?_
              refine id (α := Rg (k_at A (A 6 6)) → _) (fun _ => ?_) (rg_at hR); refine w_puti hW (cct c17_137 rfl) (st_k hT 6 11 (by decide)) (ji := 4) rfl ?_
              exact p_rv (cct c17_140 rfl) h
          · have h := h.2 c
            refine p_ald (cc3 c17_115) rfl ?_
            obtain ⟨g3, h⟩ := h
            obtain ⟨g4, h⟩ := h
            obtain ⟨g5, h⟩ := h
            obtain ⟨A_1, he, hR_1, hp_1⟩ := S25 (A := UA A 6 7 ((A 6 6) + 1)) (P := P) (Nat.le_trans (by decide) hd) hW (rg_UA hR g2) hT hG t ⟨g3, g1, g4, g5⟩
            have h := h A_1 hR_1 hp_1
            refine p_callV (cc3 c17_116) (Nat.le_of_ble_eq_true rfl) rfl rfl (Nat.le_of_ble_eq_true rfl) (wk_kd hW (by decide) (st_k hT 6 11 (by decide))) he ?_
            refine p_goto (cc3 c17_119) ?_
            refine p_lc (ls' := []) c17_140 rfl rfl ?_
            exact p_rv (cct c17_140 rfl) h
        · have h := h.2 c
          refine p_ald (cc3 c17_101) rfl ?_
          obtain ⟨g3, h⟩ := h
          obtain ⟨g4, h⟩ := h
          obtain ⟨g5, h⟩ := h
          obtain ⟨A_1, he, hR_1, hp_1⟩ := S21 (A := UA A 6 7 ((A 6 6) + 1)) (P := P) (Nat.le_trans (by decide) hd) hW (rg_UA hR g2) hT hG t ⟨g3, g4, g1, g5⟩
          have h := h A_1 hR_1 hp_1
          refine p_callV (cc3 c17_102) (Nat.le_of_ble_eq_true rfl) rfl rfl (Nat.le_of_ble_eq_true rfl) (wk_kd hW (by decide) (st_k hT 6 11 (by decide))) he ?_
          refine p_goto (cc3 c17_105) ?_
          refine p_lc (ls' := []) c17_140 rfl rfl ?_
          exact p_rv (cct c17_140 rfl) h
    · have h := h.2 c
      refine p_ald (cc3 c17_44) rfl ?_
      refine p_dup (cc3 c17_45) rfl ?_
      refine w_geti hW (v := A 6 6) (cc3 c17_46) (st_k hT 6 11 (by decide)) (ji := 6) rfl rfl ?_
      refine i_push (n := 1) (cc3 c17_49) zl_1 ?_
      obtain ⟨g2, h⟩ := h
      refine (fun _ : Rg ((A 6 6) + 1) => i_add (cc3 c17_50) ?_) g2
      refine id (α := Rg ((A 6 6) + 1) → _) (fun _ => ?_) g2; refine w_puti hW (cc3 c17_51) (st_k hT 6 11 (by decide)) (ji := 6) rfl ?_
      refine p_goto (cc3 c17_54) ?_
      exact h

theorem L17 {d : Nat} (hd : 6 ≤ d) {Q : Option Value → xM → Prop} {t : Int → Int} {W : gW} (hW : HW W) {A0 : Nat → Int → Int} {P : Nat → Int → Nat} (hT : Stat W P) (hG : GL W) (p1 : TpR A0 t) (p2 : StrA A0) (p3 : P 6 3 = 1 + 1) {p : Int} (hp : 0 ≤ p ∧ p ≤ A0 1 1)
    (hQ : ∀ A', RG A' → Fo 6 [] [4, 5, 6, 7] A0 A' → KCur A' t (A0 1 1) p → Q none (Wm W A' P)) :
    ∀ (n : Nat) (A : Nat → Int → Int), A0 1 1 - A 6 6 = n → RG A → Fo 6 [] [6] A0 A → p ≤ A 6 6 → skf isBl t (A0 1 1) (A 6 6) = tkB t (A0 1 1) p → wpE (xT 17) (xev xT d) Q (17, [(0, .ref (lo W 6))], [], Wm W A P) := by
  have hb := p1.1
  have F4 : ∀ A : Nat → Int → Int, Fo 6 [] [6] A0 A → ∀ v w, Fo 6 [] [4, 5, 6, 7] A0 (UA (UA A 6 7 w) 6 4 v) := fun A hF v w => ((hF.mono (by simp) (fun j h => by revert h; simp; omega)).fld (by decide)).fld (by decide)
  have END : ∀ A : Nat → Int → Int, RG A → Fo 6 [] [6] A0 A → A 6 6 = tkB t (A0 1 1) p → A0 1 1 ≤ A 6 6 → A 6 6 ≤ 160 → Q none (Wm W (UA (UA A 6 7 (A 6 6 + 1)) 6 4 401) P) := by
    intro A hR hF hB h1 h2
    have hr := hR 6 6
    have c : tkC t (A0 1 1) p = 401 := by unfold tkC; rw [← hB, if_pos h1]
    exact hQ _ (rg_UA (rg_UA hR ⟨by omega, by omega⟩) (by decide)) (F4 A hF _ _) ⟨hB, by rw [UA_eq, c], fun q => absurd c q, fun q => by omega⟩
  have TOK : ∀ A : Nat → Int → Int, RG A → Fo 6 [] [6] A0 A → 0 ≤ A 6 6 → A 6 6 = tkB t (A0 1 1) p → A 6 6 < A0 1 1 → (((k_at A (A 6 6)) = (-1)) → Q none (Wm W (UA (UA A 6 7 ((A 6 6) + 1)) 6 4 401) P)) ∧ (¬ ((k_at A (A 6 6)) = (-1)) → ((¬ (97 ≤ (k_at A (A 6 6)) ∧ (k_at A (A 6 6)) ≤ 122) → ((¬ (48 ≤ (k_at A (A 6 6)) ∧ (k_at A (A 6 6)) ≤ 57) → ((¬ (isSg (k_at A (A 6 6))) → Q none (Wm W (UA (UA A 6 7 ((A 6 6) + 1)) 6 4 402) P)) ∧ ((isSg (k_at A (A 6 6))) → Q none (Wm W (UA (UA A 6 7 ((A 6 6) + 1)) 6 4 (k_at A (A 6 6))) P)))) ∧ ((48 ≤ (k_at A (A 6 6)) ∧ (k_at A (A 6 6)) ≤ 57) → (TpR (UA A 6 7 ((A 6 6) + 1)) t) ∧ (0 ≤ (UA A 6 7 ((A 6 6) + 1)) 6 6 ∧ (UA A 6 7 ((A 6 6) + 1)) 6 7 = (UA A 6 7 ((A 6 6) + 1)) 6 6 + 1 ∧ (UA A 6 7 ((A 6 6) + 1)) 6 7 ≤ (UA A 6 7 ((A 6 6) + 1)) 1 1) ∧ (48 ≤ t ((UA A 6 7 ((A 6 6) + 1)) 6 6) ∧ t ((UA A 6 7 ((A 6 6) + 1)) 6 6) ≤ 57) ∧ (∀ (A_1 : Nat → Int → Int), RG A_1 → (Fo 6 [] [4, 5, 7] (UA A 6 7 ((A 6 6) + 1)) A_1 ∧ A_1 6 7 = skf isDi t ((UA A 6 7 ((A 6 6) + 1)) 1 1) ((UA A 6 7 ((A 6 6) + 1)) 6 7) ∧ A_1 6 4 = (if A_1 6 7 - (UA A 6 7 ((A 6 6) + 1)) 6 6 ≤ 4 then 400 else 402) ∧ (A_1 6 7 - (UA A 6 7 ((A 6 6) + 1)) 6 6 ≤ 4 → A_1 6 5 = dv t ((UA A 6 7 ((A 6 6) + 1)) 6 6) (A_1 6 7 - (UA A 6 7 ((A 6 6) + 1)) 6 6).toNat)) → Q none (Wm W A_1 P))))) ∧ ((97 ≤ (k_at A (A 6 6)) ∧ (k_at A (A 6 6)) ≤ 122) → (TpR (UA A 6 7 ((A 6 6) + 1)) t) ∧ (StrA (UA A 6 7 ((A 6 6) + 1))) ∧ (0 ≤ (UA A 6 7 ((A 6 6) + 1)) 6 6 ∧ (UA A 6 7 ((A 6 6) + 1)) 6 6 < (UA A 6 7 ((A 6 6) + 1)) 6 7 ∧ (UA A 6 7 ((A 6 6) + 1)) 6 7 ≤ (UA A 6 7 ((A 6 6) + 1)) 1 1) ∧ (∀ (A_1 : Nat → Int → Int), RG A_1 → (Fo 6 [] [4, 7] (UA A 6 7 ((A 6 6) + 1)) A_1 ∧ A_1 6 7 = skf isLe t ((UA A 6 7 ((A 6 6) + 1)) 1 1) ((UA A 6 7 ((A 6 6) + 1)) 6 7) ∧ A_1 6 4 = if wkT t ((UA A 6 7 ((A 6 6) + 1)) 6 6) (A_1 6 7) = -1 then 402 else 200 + wkT t ((UA A 6 7 ((A 6 6) + 1)) 6 6) (A_1 6 7)) → Q none (Wm W A_1 P))))) := by
    intro A hR hF h0 hB h1
    have r : ∀ c, ¬ c = 6 → A c = A0 c := fun c h => hF.1 c (by simp) h
    have k1 : k_at A (A 6 6) = t (A 6 6) % 256 ∧ -128 ≤ t (A 6 6) ∧ t (A 6 6) ≤ 127 := by
      have e : k_at A = k_at A0 := by funext p; unfold k_at; rw [r 1 (by decide), r 2 (by decide)]
      rw [e]; exact (p1.at (by omega)).2 (by omega)
    have q1 : ∀ w, (UA A 6 7 w) 1 1 = A0 1 1 := fun w => by show A 1 1 = _; rw [r 1 (by decide)]
    have q6 : ∀ w, (UA A 6 7 w) 6 6 = A 6 6 := fun w => rfl
    have q7 : ∀ w, (UA A 6 7 w) 6 7 = w := fun w => rfl
    have tp : ∀ w, TpR (UA A 6 7 w) t := fun w => by
      refine ⟨?_, p1.2.1, ?_⟩
      · show 0 ≤ A 1 1 ∧ A 1 1 ≤ 160; rw [r 1 (by decide)]; exact p1.1
      · show ∀ i : Int, 0 ≤ i → i < A 1 1 → A 2 i = t i % 256; rw [r 1 (by decide), r 2 (by decide)]; exact p1.2.2
    have st : ∀ w, StrA (UA A 6 7 w) := fun w => p2.c (fun c hc => by
      have : UA A 6 7 w c = A c := by funext i; exact UA_c (by omega)
      rw [this, r c (by omega)])
    have hlt : ¬ A0 1 1 ≤ tkB t (A0 1 1) p := by omega
    have sg := isSg_256 k1.2
    have FA : ∀ A_1 fs w, (∀ j : Int, j ∈ fs → j ∈ [(4 : Int), 5, 6, 7]) → Fo 6 [] fs (UA A 6 7 w) A_1 → Fo 6 [] [4, 5, 6, 7] A0 A_1 := fun A_1 fs w hj h => ((hF.mono (by simp) (fun j h => by revert h; simp; omega)).fld (by decide)).tr (h.mono (by simp) hj)
    refine ⟨fun c => by omega, fun _ => ⟨fun c => ⟨fun c2 => ⟨fun c3 => ?_, fun c3 => ?_⟩, fun c2 => ?_⟩, fun c => ?_⟩⟩
    · rw [k1.1] at c c2 c3
      have hL : ¬ isLe (t (tkB t (A0 1 1) p)) = true := by unfold isLe; rw [← hB, decide_eq_true_iff]; omega
      have hD : ¬ isDi (t (tkB t (A0 1 1) p)) = true := by unfold isDi; rw [← hB, decide_eq_true_iff]; omega
      have hS : ¬ isSg (t (tkB t (A0 1 1) p)) := by rw [← hB]; exact fun q => c3 (sg.1.mpr q)
      have eC : tkC t (A0 1 1) p = 402 := by unfold tkC; rw [if_neg hlt, if_neg hL, if_neg hD, if_neg hS]
      have eE : tkE t (A0 1 1) p = A 6 6 + 1 := by unfold tkE; rw [if_neg hlt, if_neg hL, if_neg hD, hB]
      exact hQ _ (rg_UA (rg_UA hR ⟨by omega, by omega⟩) (by decide)) (F4 A hF _ _) ⟨hB, by rw [UA_eq, eC], fun _ => by rw [eE]; rfl, fun q => by omega⟩
    · rw [k1.1] at c c2 c3
      have hL : ¬ isLe (t (tkB t (A0 1 1) p)) = true := by unfold isLe; rw [← hB, decide_eq_true_iff]; omega
      have hD : ¬ isDi (t (tkB t (A0 1 1) p)) = true := by unfold isDi; rw [← hB, decide_eq_true_iff]; omega
      have hS' := sg.1.mp c3
      have hS : isSg (t (tkB t (A0 1 1) p)) := by rw [← hB]; exact hS'
      have eC : tkC t (A0 1 1) p = t (A 6 6) := by unfold tkC; rw [if_neg hlt, if_neg hL, if_neg hD, if_pos hS, hB]
      have eE : tkE t (A0 1 1) p = A 6 6 + 1 := by unfold tkE; rw [if_neg hlt, if_neg hL, if_neg hD, hB]
      have e2 := sg.2 hS'
      exact hQ _ (rg_UA (rg_UA hR ⟨by omega, by omega⟩) (by rw [k1.1]; exact ⟨by omega, by omega⟩)) (F4 A hF _ _) ⟨hB, by rw [UA_eq, eC, k1.1, e2], fun _ => by rw [eE]; rfl, fun q => by rw [eC] at q; unfold isSg at hS'; omega⟩
    · rw [k1.1] at c2
      have hL : ¬ isLe (t (tkB t (A0 1 1) p)) = true := by unfold isLe; rw [← hB, decide_eq_true_iff]; omega
      have hD : isDi (t (tkB t (A0 1 1) p)) = true := by unfold isDi; rw [← hB, decide_eq_true_iff]; omega
      have eE : tkE t (A0 1 1) p = skf isDi t (A0 1 1) (A 6 6) := by unfold tkE; rw [if_neg hlt, if_neg hL, if_pos hD, hB]
      have eE2 : skf isDi t (A0 1 1) (A 6 6) = skf isDi t (A0 1 1) (A 6 6 + 1) := by rw [skf_s h1, if_pos (by rw [hB]; exact hD)]
      refine ⟨tp _, by rw [q6, q7, q1]; omega, by rw [q6]; omega, fun A1 hR1 h1 => ?_⟩
      rw [q6, q1, q7] at h1
      obtain ⟨f1, f2, f3, f4⟩ := h1
      have e6 : A1 6 6 = A 6 6 := f1.2 6 (by decide)
      have eC : tkC t (A0 1 1) p = if A1 6 7 - A 6 6 ≤ 4 then 400 else 402 := by unfold tkC; rw [if_neg hlt, if_neg hL, if_pos hD, eE, eE2, ← f2, hB]
      refine hQ A1 hR1 (FA A1 _ _ (fun j h => by revert h; simp; omega) f1) ⟨by rw [e6, hB], by rw [f3, eC], fun _ => by rw [f2, eE, eE2], fun q => ?_⟩
      rw [eC] at q
      split at q
      · rename_i c4
        rw [f4 c4]
        unfold tkV
        rw [eE, eE2, ← f2, hB]
        congr 1
        omega
      · omega
    · rw [k1.1] at c
      have hL : isLe (t (tkB t (A0 1 1) p)) = true := by unfold isLe; rw [← hB, decide_eq_true_iff]; omega
      have eE : tkE t (A0 1 1) p = skf isLe t (A0 1 1) (A 6 6) := by unfold tkE; rw [if_neg hlt, if_pos hL, hB]
      have eE2 : skf isLe t (A0 1 1) (A 6 6) = skf isLe t (A0 1 1) (A 6 6 + 1) := by rw [skf_s h1, if_pos (by rw [hB]; exact hL)]
      refine ⟨tp _, st _, by rw [q6, q7, q1]; omega, fun A1 hR1 h1 => ?_⟩
      rw [q6, q1, q7] at h1
      obtain ⟨f1, f2, f3⟩ := h1
      have e6 : A1 6 6 = A 6 6 := f1.2 6 (by decide)
      have eC : tkC t (A0 1 1) p = if wkT t (A 6 6) (A1 6 7) = -1 then 402 else 200 + wkT t (A 6 6) (A1 6 7) := by unfold tkC; rw [if_neg hlt, if_pos hL, eE, eE2, ← f2, hB]
      refine hQ A1 hR1 (FA A1 _ _ (fun j h => by revert h; simp; omega) f1) ⟨by rw [e6, hB], by rw [f3, eC], fun _ => by rw [f2, eE, eE2], fun q => ?_⟩
      rw [eC] at q
      split at q
      · omega
      · rename_i h4; unfold wkT at h4 q; exfalso; (repeat' split at q) <;> omega
  intro n
  induction n with
  | zero =>
    intro A hn hR hF h6 hE
    have r : ∀ c, ¬ c = 6 → A c = A0 c := fun c h => hF.1 c (by simp) h
    have k1 : k_at A (A 6 6) = -1 := by unfold k_at; rw [r 1 (by decide), if_pos (by omega)]
    have hB : A 6 6 = tkB t (A0 1 1) p := by rw [← hE, skf_e (by omega)]
    have hend := END A hR hF hB (by omega) (by omega)
    refine V17_17 (t := t) hd hW hR hT hG ⟨fun _ => ⟨p3, ⟨by omega, by omega⟩, fun _ => hend, fun c => absurd k1 c⟩, fun _ => ⟨p3, fun _ => ⟨⟨by omega, by omega⟩, fun _ => hend, fun c => absurd k1 c⟩, fun c => ?_⟩⟩
    rw [k1] at c; omega
  | succ n ih =>
    intro A hn hR hF h6 hE
    have r : ∀ c, ¬ c = 6 → A c = A0 c := fun c h => hF.1 c (by simp) h
    have k1 : k_at A (A 6 6) = t (A 6 6) % 256 ∧ -128 ≤ t (A 6 6) ∧ t (A 6 6) ≤ 127 := by
      have e : k_at A = k_at A0 := by funext p; unfold k_at; rw [r 1 (by decide), r 2 (by decide)]
      rw [e]; exact (p1.at (by omega)).2 (by omega)
    have hs := skf_s (P := isBl) (t := t) (n := A0 1 1) (p := A 6 6) (by omega)
    refine V17_17 (t := t) hd hW hR hT hG ⟨fun c => absurd c (by omega), fun _ => ⟨p3, fun c => ⟨⟨by omega, by omega⟩, ?_⟩, fun c => ⟨⟨by omega, by omega⟩, ?_⟩⟩⟩
    · rw [k1.1] at c
      rw [if_neg (by unfold isBl; rw [decide_eq_true_iff]; omega)] at hs
      exact TOK A hR hF (by omega) (by rw [← hE, hs]) (by omega)
    · rw [k1.1] at c
      rw [if_pos (by unfold isBl; rw [decide_eq_true_iff]; omega)] at hs
      have e7 : (UA A 6 6 (A 6 6 + 1)) 6 6 = A 6 6 + 1 := UA_eq
      exact ih _ (by rw [e7]; omega) (rg_UA hR ⟨by omega, by omega⟩) (hF.fld (by decide)) (by rw [e7]; omega) (by rw [e7, ← hs, hE])
theorem S17 {d : Nat} (hd : 7 ≤ d) {W : gW} (hW : HW W) {A : Nat → Int → Int} {P : Nat → Int → Nat} (hR : RG A) (hT : Stat W P) (hG : GL W) (t : Int → Int) (hp : (TpR A t) ∧ (StrA A) ∧ (P 6 3 = 1 + 1) ∧ (A 6 8 = -1 → 0 ≤ A 6 7 ∧ A 6 7 ≤ A 1 1)) : ∃ (A' : Nat → Int → Int), xev xT d 17 [.ref (lo W 6)] (Wm W A P) none (Wm W A' P) ∧ RG A' ∧ ((¬ A 6 8 = -1 → A' = A) ∧ (A 6 8 = -1 → Fo 6 [] [4, 5, 6, 7] A A' ∧ KCur A' t (A 1 1) (A 6 7))) := by
  refine xev_g (i := 17) (as := [.ref (lo W 6)]) (σ := Wm W A P) (Q := fun r_ σ_ => ∃ (A' : Nat → Int → Int), r_ = none ∧ σ_ = Wm W A' P ∧ RG A' ∧ ((¬ A 6 8 = -1 → A' = A) ∧ (A 6 8 = -1 → Fo 6 [] [4, 5, 6, 7] A A' ∧ KCur A' t (A 1 1) (A 6 7)))) (D := 6) hd (Nat.le_of_ble_eq_true rfl) (fun r_ σ_ he hq => ?_) (fun d hd => V17_0 hd hW hR hT hG (t := t) ?_)
  · obtain ⟨A', rfl, rfl, hq⟩ := hq
    exact ⟨A', he, hq⟩

  obtain ⟨p1, p2, p3, p4⟩ := hp
  refine ⟨fun c => ?_, fun c => ⟨A, rfl, rfl, hR, fun _ => rfl, fun q => absurd q c⟩⟩
  have h4 := p4 c
  have e6 : (UA A 6 6 (A 6 7)) 6 6 = A 6 7 := UA_eq
  exact L17 hd hW hT hG p1 p2 p3 h4 (fun A' h1 h2 h3 => ⟨A', rfl, rfl, h1, fun q => absurd c q, fun _ => ⟨h2, h3⟩⟩) (A 1 1 - A 6 7).toNat _ (by rw [e6]; omega) (rg_UA hR (hR _ _)) (Fo.rf.fld (by decide)) (by rw [e6]; exact Int.le_refl _) (by rw [e6]; rfl)
