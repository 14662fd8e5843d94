theorem V42_0 {d : Nat} (hd : 2 ≤ d) {Q : Option Value → xM → Prop} {W : gW} (hW : HW W) {A : Nat → Int → Int} {P : Nat → Int → Nat} (hR : RG A) (hT : Stat W P) (hG : GL W) {a0 : Nat} (h : (gK W a0 = 6) ∧ (((UA A a0 0 (A 3 2)) 3 3) = 0 ∨ ((UA A a0 0 (A 3 2)) 3 3) = 1) ∧ (1 ≤ (UA (UA A a0 0 (A 3 2)) a0 2 ((UA A a0 0 (A 3 2)) 3 3)) 3 2 ∧ (UA (UA A a0 0 (A 3 2)) a0 2 ((UA A a0 0 (A 3 2)) 3 3)) 3 2 ≤ 10) ∧ (∀ i : Int, 0 ≤ i → i < (UA (UA A a0 0 (A 3 2)) a0 2 ((UA A a0 0 (A 3 2)) 3 3)) 3 2 → 0 ≤ (UA (UA A a0 0 (A 3 2)) a0 2 ((UA A a0 0 (A 3 2)) 3 3)) 5 i ∧ (UA (UA A a0 0 (A 3 2)) a0 2 ((UA A a0 0 (A 3 2)) 3 3)) 5 i ≤ 999) ∧ wpE (xT 42) (xev xT d) Q (37, [(0, .ref (lo W a0)), (1, .ref (lo W 3))], [.int (iz (A 3 2)), .ref (lo W 4), .ref (lo W a0)], Wm W (UA (UA (UA A a0 0 (A 3 2)) a0 2 ((UA A a0 0 (A 3 2)) 3 3)) a0 1 (sm (perK (UA (UA A a0 0 (A 3 2)) a0 2 ((UA A a0 0 (A 3 2)) 3 3))) ((UA (UA A a0 0 (A 3 2)) a0 2 ((UA A a0 0 (A 3 2)) 3 3)) 3 2).toNat)) P)) : wpE (xT 42) (xev xT d) Q (0, [(0, .ref (lo W a0)), (1, .ref (lo W 3))], [], Wm W A P) := by
  refine p_ald (cc3 c42_0) rfl ?_
  refine p_obj (cc3 c42_1) (Nat.le_of_ble_eq_true rfl) ?_
  refine p_ald (cc3 c42_4) rfl ?_
  refine p_ald (cc3 c42_5) rfl ?_
  refine w_geti hW (v := A 3 2) (cc3 c42_6) (st_k hT 3 7 (by decide)) (ji := 2) rfl rfl ?_
  obtain ⟨g1, h⟩ := h
  refine id (α := Rg (A 3 2) → _) (fun _ => ?_) (hR 3 2); refine w_puti hW (cc3 c42_9) g1 (ji := 0) rfl ?_
  refine p_ald (cc3 c42_12) rfl ?_
  refine p_ald (cc3 c42_13) rfl ?_
  refine w_geti hW (v := (UA A a0 0 (A 3 2)) 3 3) (cc3 c42_14) (st_k hT 3 7 (by decide)) (ji := 3) rfl (by first | rfl | exact UA_eq | exact UA_j (by decide) | exact UA_c (by decide) | simp [UA]) ?_
  obtain ⟨g2, h⟩ := h
  refine id (α := Rg ((UA A a0 0 (A 3 2)) 3 3) → _) (fun _ => ?_) ((rg_UA hR (hR 3 2)) 3 3); refine w_putb hW (cc3 c42_17) g1 (ji := 2) rfl g2 ?_
  refine p_ald (cc3 c42_20) rfl ?_
  refine p_ald (cc3 c42_21) rfl ?_
  obtain ⟨g3, h⟩ := h
  obtain ⟨g4, h⟩ := h
  refine p_callV (cc3 c42_22) (Nat.le_of_ble_eq_true rfl) rfl rfl (Nat.le_of_ble_eq_true rfl) (wk_kd hW (by decide) (st_k hT 3 7 (by decide))) (S41 (Nat.le_trans (by decide) hd) hW (rg_UA (rg_UA hR (hR 3 2)) ((rg_UA hR (hR 3 2)) 3 3)) hT hG ⟨g3, g4⟩) ?_
  refine id (α := Rg (sm (perK (UA (UA A a0 0 (A 3 2)) a0 2 ((UA A a0 0 (A 3 2)) 3 3))) ((UA (UA A a0 0 (A 3 2)) a0 2 ((UA A a0 0 (A 3 2)) 3 3)) 3 2).toNat) → _) (fun _ => ?_) (rg_per ⟨g3, g4⟩); refine w_puti hW (cc3 c42_25) g1 (ji := 1) rfl ?_
  refine p_ald (cc3 c42_28) rfl ?_
  refine p_ald (cc3 c42_29) rfl ?_
  refine w_getp hW hT.1 (b := 4) (cc3 c42_30) (st_k hT 3 7 (by decide)) (ji := 0) rfl (st_p hT 3 0 4 (by decide)) ?_
  refine p_ald (cc3 c42_33) rfl ?_
  refine w_geti hW (v := A 3 2) (cc3 c42_34) g1 (ji := 0) rfl (by first | rfl | exact UA_eq | exact UA_j (by decide) | exact UA_c (by decide) | simp [UA]) ?_
  exact h
theorem V42_40 {d : Nat} (hd : 2 ≤ d) {Q : Option Value → xM → Prop} {W : gW} (hW : HW W) {A : Nat → Int → Int} {P : Nat → Int → Nat} (hR : RG A) (hT : Stat W P) (hG : GL W) {a0 b0 b1 : Nat} (h : (29 ≤ b1) ∧ (gK W b1 = 6) ∧ (NZ W b0) ∧ (gK W a0 = 6) ∧ wpE (xT 42) (xev xT d) Q (52, [(0, .ref (lo W a0)), (1, .ref (lo W 3))], [.int (iz (A a0 0)), .ref (lo W 5), .ref (lo W a0)], Wm W A (UP P b1 3 (b0 + 1)))) : wpE (xT 42) (xev xT d) Q (40, [(0, .ref (lo W a0)), (1, .ref (lo W 3))], [.ref (lo W b0), .ref (lo W b1)], Wm W A P) := by
  obtain ⟨g1, h⟩ := h
  obtain ⟨g2, h⟩ := h
  obtain ⟨g3, h⟩ := h
  refine id (α := 29 ≤ b1 → _) (fun _ => ?_) g1; refine w_putp hW (cc3 c42_40) g2 (ji := 3) rfl g3 ?_
  refine p_ald (cc3 c42_43) rfl ?_
  refine p_ald (cc3 c42_44) rfl ?_
  refine w_getp hW (Stat.up (v := b0 + 1) (c := b1) (j := 3) hT (po_d (j := 3) g1 (by decide)) (Or.inr g3)).1 (b := 5) (cc3 c42_45) (st_k (Stat.up (v := b0 + 1) (c := b1) (j := 3) hT (po_d (j := 3) g1 (by decide)) (Or.inr g3)) 3 7 (by decide)) (ji := 1) rfl (st_p (Stat.up (v := b0 + 1) (c := b1) (j := 3) hT (po_d (j := 3) g1 (by decide)) (Or.inr g3)) 3 1 5 (by decide)) ?_
  refine p_ald (cc3 c42_48) rfl ?_
  obtain ⟨g4, h⟩ := h
  refine w_geti hW (v := A a0 0) (cc3 c42_49) g4 (ji := 0) rfl rfl ?_
  exact h
theorem V42_55 {d : Nat} (hd : 2 ≤ d) {Q : Option Value → xM → Prop} {W : gW} (hW : HW W) {A : Nat → Int → Int} {P : Nat → Int → Nat} (hR : RG A) (hT : Stat W P) (hG : GL W) {a0 b0 b1 : Nat} (h : (29 ≤ b1) ∧ (gK W b1 = 6) ∧ (NZ W b0) ∧ (gK W a0 = 6) ∧ wpE (xT 42) (xev xT d) Q (63, [(0, .ref (lo W a0)), (1, .ref (lo W 3))], [.int (iz (A a0 0)), .ref (lo W a0)], Wm W A (UP P b1 4 (b0 + 1)))) : wpE (xT 42) (xev xT d) Q (55, [(0, .ref (lo W a0)), (1, .ref (lo W 3))], [.ref (lo W b0), .ref (lo W b1)], Wm W A P) := by
  obtain ⟨g1, h⟩ := h
  obtain ⟨g2, h⟩ := h
  obtain ⟨g3, h⟩ := h
  refine id (α := 29 ≤ b1 → _) (fun _ => ?_) g1; refine w_putp hW (cc3 c42_55) g2 (ji := 4) rfl g3 ?_
  refine p_ald (cc3 c42_58) rfl ?_
  refine p_ald (cc3 c42_59) rfl ?_
  obtain ⟨g4, h⟩ := h
  refine w_geti hW (v := A a0 0) (cc3 c42_60) g4 (ji := 0) rfl rfl ?_
  exact h
theorem V42_65 {d : Nat} (hd : 2 ≤ d) {Q : Option Value → xM → Prop} {W : gW} (hW : HW W) {A : Nat → Int → Int} {P : Nat → Int → Nat} (hR : RG A) (hT : Stat W P) (hG : GL W) {a0 b0 b1 : Nat} (h : (29 ≤ b1) ∧ (gK W b1 = 6) ∧ (NZ W b0) ∧ (gK W a0 = 6) ∧ wpE (xT 42) (xev xT d) Q (73, [(0, .ref (lo W a0)), (1, .ref (lo W 3))], [.int (iz (A a0 1)), .ref (lo W a0)], Wm W A (UP P b1 5 (b0 + 1)))) : wpE (xT 42) (xev xT d) Q (65, [(0, .ref (lo W a0)), (1, .ref (lo W 3))], [.ref (lo W b0), .ref (lo W b1)], Wm W A P) := by
  obtain ⟨g1, h⟩ := h
  obtain ⟨g2, h⟩ := h
  obtain ⟨g3, h⟩ := h
  refine id (α := 29 ≤ b1 → _) (fun _ => ?_) g1; refine w_putp hW (cc3 c42_65) g2 (ji := 5) rfl g3 ?_
  refine p_ald (cc3 c42_68) rfl ?_
  refine p_ald (cc3 c42_69) rfl ?_
  obtain ⟨g4, h⟩ := h
  refine w_geti hW (v := A a0 1) (cc3 c42_70) g4 (ji := 1) rfl rfl ?_
  exact h
theorem V42_75 {d : Nat} (hd : 2 ≤ d) {Q : Option Value → xM → Prop} {W : gW} (hW : HW W) {A : Nat → Int → Int} {P : Nat → Int → Nat} (hR : RG A) (hT : Stat W P) (hG : GL W) {a0 b0 b1 : Nat} (h : (29 ≤ b1) ∧ (gK W b1 = 6) ∧ (NZ W b0) ∧ wpE (xT 42) (xev xT d) Q (82, [(0, .ref (lo W a0)), (2, .int (iz 0)), (3, .int (iz 0))], [], Wm W A (UP P b1 6 (b0 + 1)))) : wpE (xT 42) (xev xT d) Q (75, [(0, .ref (lo W a0)), (1, .ref (lo W 3))], [.ref (lo W b0), .ref (lo W b1)], Wm W A P) := by
  obtain ⟨g1, h⟩ := h
  obtain ⟨g2, h⟩ := h
  obtain ⟨g3, h⟩ := h
  refine id (α := 29 ≤ b1 → _) (fun _ => ?_) g1; refine w_putp hW (cc3 c42_75) g2 (ji := 6) rfl g3 ?_
  refine i_push (n := 0) (cc3 c42_78) zl_0 ?_
  refine p_ist (ls' := [(2, .int (iz 0)), (0, .ref (lo W a0)), (1, .ref (lo W 3))]) (cc3 c42_79) (by decide) rfl ?_
  refine i_push (n := 0) (cc3 c42_80) zl_0 ?_
  refine p_ist (ls' := [(3, .int (iz 0)), (2, .int (iz 0)), (0, .ref (lo W a0)), (1, .ref (lo W 3))]) (cc3 c42_81) (by decide) rfl ?_
  exact p_lc (ls' := [(0, .ref (lo W a0)), (2, .int (iz 0)), (3, .int (iz 0))]) c42_82 rfl rfl h
theorem V42_82 {d : Nat} (hd : 2 ≤ d) {Q : Option Value → xM → Prop} {W : gW} (hW : HW W) {A : Nat → Int → Int} {P : Nat → Int → Nat} (hR : RG A) (hT : Stat W P) (hG : GL W) {x2 x3 : Int} {a0 : Nat} (rr : Rg x2 ∧ Rg x3) (h : (gK W a0 = 6) ∧ ((((A a0 0) ≤ x3) → (Rg ((A a0 0) - 2)) ∧ wpE (xT 42) (xev xT d) Q (128, [(0, .ref (lo W a0)), (2, .int (iz x2)), (3, .int (iz ((A a0 0) - 2)))], [], Wm W A P)) ∧ (¬ ((A a0 0) ≤ x3) → (P a0 5 = (a0 + 3) + 1) ∧ (P a0 4 = (a0 + 2) + 1) ∧ (gK W (a0 + 2) = 20) ∧ (0 ≤ x3 ∧ x3 < gL W (a0 + 2) ∧ x3 ≤ 2147483647) ∧ (Rg ((A (a0 + 2) x3) - 1)) ∧ (Rg (x2 + (((A (a0 + 2) x3) - 1).tdiv 2))) ∧ (gK W (a0 + 3) = 20) ∧ (0 ≤ x3 ∧ x3 < gL W (a0 + 3) ∧ x3 ≤ 2147483647) ∧ (OSt W P (UA A (a0 + 3) x3 (x2 + (((A (a0 + 2) x3) - 1).tdiv 2))) a0) ∧ (0 ≤ x2 ∧ x2 ≤ 100000) ∧ (0 ≤ x3 ∧ x3 < (UA A (a0 + 3) x3 (x2 + (((A (a0 + 2) x3) - 1).tdiv 2))) a0 0) ∧ (0 ≤ (UA A (a0 + 3) x3 (x2 + (((A (a0 + 2) x3) - 1).tdiv 2))) (a0 + 2) x3 ∧ (UA A (a0 + 3) x3 (x2 + (((A (a0 + 2) x3) - 1).tdiv 2))) (a0 + 2) x3 ≤ 999) ∧ (Rg (x3 + 1)) ∧ wpE (xT 42) (xev xT d) Q (82, [(0, .ref (lo W a0)), (2, .int (iz (min (x2 + (UA A (a0 + 3) x3 (x2 + (((A (a0 + 2) x3) - 1).tdiv 2))) (a0 + 2) x3) ((UA A (a0 + 3) x3 (x2 + (((A (a0 + 2) x3) - 1).tdiv 2))) a0 1)))), (3, .int (iz (x3 + 1)))], [], Wm W (kfw (UA A (a0 + 3) x3 (x2 + (((A (a0 + 2) x3) - 1).tdiv 2))) (a0 + 4) (b8 ((UA A (a0 + 3) x3 (x2 + (((A (a0 + 2) x3) - 1).tdiv 2))) (a0 + 1) x3)) x2 (min (x2 + (UA A (a0 + 3) x3 (x2 + (((A (a0 + 2) x3) - 1).tdiv 2))) (a0 + 2) x3) ((UA A (a0 + 3) x3 (x2 + (((A (a0 + 2) x3) - 1).tdiv 2))) a0 1))) P)))) : wpE (xT 42) (xev xT d) Q (82, [(0, .ref (lo W a0)), (2, .int (iz x2)), (3, .int (iz x3))], [], Wm W A P) := by
  refine p_ild (cct c42_82 rfl) rfl ?_
  refine p_ald (cc3 c42_83) rfl ?_
  obtain ⟨g1, h⟩ := h
  refine w_geti hW (v := A a0 0) (cc3 c42_84) g1 (ji := 0) rfl rfl ?_
  refine i_icmp (c' := (A a0 0) ≤ x3) (cc3 c42_87) (iz_le (hR a0 0) rr.2) (fun c => ?_) (fun c => ?_)
  · have h := h.1 c
    refine p_ald (cc3 c42_121) rfl ?_
    refine w_geti hW (v := A a0 0) (cc3 c42_122) g1 (ji := 0) rfl rfl ?_
    refine i_push (n := 2) (cc3 c42_125) zl_2 ?_
    obtain ⟨g2, h⟩ := h
    refine (fun _ : Rg ((A a0 0) - 2) => i_sub (cc3 c42_126) ?_) g2
    refine p_ist (ls' := [(3, .int (iz ((A a0 0) - 2))), (0, .ref (lo W a0)), (2, .int (iz x2))]) (cc3 c42_127) (by decide) rfl ?_
    exact p_lc (ls' := [(0, .ref (lo W a0)), (2, .int (iz x2)), (3, .int (iz ((A a0 0) - 2)))]) c42_128 rfl rfl h
  · have h := h.2 c
    refine p_ald (cc3 c42_90) rfl ?_
    obtain ⟨g2, h⟩ := h
    refine w_getp hW hT.1 (b := a0 + 3) (cc3 c42_91) g1 (ji := 5) rfl g2 ?_
    refine p_ild (cc3 c42_94) rfl ?_
    refine p_ild (cc3 c42_95) rfl ?_
    refine p_ald (cc3 c42_96) rfl ?_
    obtain ⟨g3, h⟩ := h
    refine w_getp hW hT.1 (b := a0 + 2) (cc3 c42_97) g1 (ji := 4) rfl g3 ?_
    refine p_ild (cc3 c42_100) rfl ?_
    obtain ⟨g4, h⟩ := h
    obtain ⟨g5, h⟩ := h
    refine w_aldi hW (v := A (a0 + 2) x3) (cc3 c42_101) g4 g5 rfl ?_
    refine i_push (n := 1) (cc3 c42_102) zl_1 ?_
    obtain ⟨g6, h⟩ := h
    refine (fun _ : Rg ((A (a0 + 2) x3) - 1) => i_sub (cc3 c42_103) ?_) g6
    refine i_push (n := 2) (cc3 c42_104) zl_2 ?_
    refine i_div (cc3 c42_105) g6 (by decide) ?_
    obtain ⟨g7, h⟩ := h
    refine (fun _ : Rg (x2 + (((A (a0 + 2) x3) - 1).tdiv 2)) => i_add (cc3 c42_106) ?_) g7
    obtain ⟨g8, h⟩ := h
    obtain ⟨g9, h⟩ := h
    refine id (α := Rg (x2 + (((A (a0 + 2) x3) - 1).tdiv 2)) → _) (fun _ => ?_) g7; refine w_asti hW (cc3 c42_107) g8 g9 rfl ?_
    refine p_ald (cc3 c42_108) rfl ?_
    refine p_ild (cc3 c42_109) rfl ?_
    refine p_ild (cc3 c42_110) rfl ?_
    obtain ⟨g10, h⟩ := h
    obtain ⟨g11, h⟩ := h
    obtain ⟨g12, h⟩ := h
    obtain ⟨g13, h⟩ := h
    refine p_callV (cc3 c42_111) (Nat.le_of_ble_eq_true rfl) rfl rfl (Nat.le_of_ble_eq_true rfl) (wk_kd hW (by decide) g1) (S43 (Nat.le_trans (by decide) hd) hW (rg_UA hR g7) hT hG ⟨rr.1, rr.2⟩ ⟨g10, g11, g12, g13⟩) ?_
    refine p_ist (ls' := [(2, .int (iz (min (x2 + (UA A (a0 + 3) x3 (x2 + (((A (a0 + 2) x3) - 1).tdiv 2))) (a0 + 2) x3) ((UA A (a0 + 3) x3 (x2 + (((A (a0 + 2) x3) - 1).tdiv 2))) a0 1)))), (0, .ref (lo W a0)), (3, .int (iz x3))]) (cc3 c42_114) (by decide) rfl ?_
    obtain ⟨g14, h⟩ := h
    refine (fun _ : Rg (x3 + 1) => i_iinc (n := 1) (y := x3 + 1) (ls' := [(3, .int (iz (x3 + 1))), (2, .int (iz (min (x2 + (UA A (a0 + 3) x3 (x2 + (((A (a0 + 2) x3) - 1).tdiv 2))) (a0 + 2) x3) ((UA A (a0 + 3) x3 (x2 + (((A (a0 + 2) x3) - 1).tdiv 2))) a0 1)))), (0, .ref (lo W a0))]) (cc3 c42_115) (by decide) rfl zl_1 (by first | rfl | omega) rfl ?_) g14
    refine p_goto (cc3 c42_118) ?_
    exact p_lc (ls' := [(0, .ref (lo W a0)), (2, .int (iz (min (x2 + (UA A (a0 + 3) x3 (x2 + (((A (a0 + 2) x3) - 1).tdiv 2))) (a0 + 2) x3) ((UA A (a0 + 3) x3 (x2 + (((A (a0 + 2) x3) - 1).tdiv 2))) a0 1)))), (3, .int (iz (x3 + 1)))]) c42_82 rfl rfl h
theorem V42_128 {d : Nat} (hd : 2 ≤ d) {Q : Option Value → xM → Prop} {W : gW} (hW : HW W) {A : Nat → Int → Int} {P : Nat → Int → Nat} (hR : RG A) (hT : Stat W P) (hG : GL W) {x2 x3 : Int} {a0 : Nat} (rr : Rg x2 ∧ Rg x3) (h : (gK W a0 = 6) ∧ ((((A a0 2) = 0) → Q none (Wm W A P)) ∧ (¬ ((A a0 2) = 0) → (((x3 ≤ 0) → Q none (Wm W A P)) ∧ (¬ (x3 ≤ 0) → (OSt W P A a0) ∧ (0 ≤ x2 ∧ x2 ≤ 100000) ∧ (0 ≤ x3 ∧ x3 < A a0 0) ∧ (0 ≤ A (a0 + 2) x3 ∧ A (a0 + 2) x3 ≤ 999) ∧ (Rg (x3 - 1)) ∧ wpE (xT 42) (xev xT d) Q (128, [(0, .ref (lo W a0)), (2, .int (iz (min (x2 + A (a0 + 2) x3) (A a0 1)))), (3, .int (iz (x3 - 1)))], [], Wm W (kfw A (a0 + 4) (b8 (A (a0 + 1) x3)) x2 (min (x2 + A (a0 + 2) x3) (A a0 1))) P)))))) : wpE (xT 42) (xev xT d) Q (128, [(0, .ref (lo W a0)), (2, .int (iz x2)), (3, .int (iz x3))], [], Wm W A P) := by
  refine p_ald (cct c42_128 rfl) rfl ?_
  obtain ⟨g1, h⟩ := h
  refine w_geti hW (v := A a0 2) (cc3 c42_129) g1 (ji := 2) rfl rfl ?_
  refine i_if (c' := (A a0 2) = 0) (cc3 c42_132) (c_eq0 (hR a0 2)) (fun c => ?_) (fun c => ?_)
  · have h := h.1 c
    refine p_lc (ls' := []) c42_152 rfl rfl ?_
    exact p_rv (cct c42_152 rfl) h
  · have h := h.2 c
    refine p_ild (cc3 c42_135) rfl ?_
    refine i_if (c' := x3 ≤ 0) (cc3 c42_136) (c_le0 rr.2) (fun c => ?_) (fun c => ?_)
    · have h := h.1 c
      refine p_lc (ls' := []) c42_152 rfl rfl ?_
      exact p_rv (cct c42_152 rfl) h
    · have h := h.2 c
      refine p_ald (cc3 c42_139) rfl ?_
      refine p_ild (cc3 c42_140) rfl ?_
      refine p_ild (cc3 c42_141) rfl ?_
      obtain ⟨g2, h⟩ := h
      obtain ⟨g3, h⟩ := h
      obtain ⟨g4, h⟩ := h
      obtain ⟨g5, h⟩ := h
      refine p_callV (cc3 c42_142) (Nat.le_of_ble_eq_true rfl) rfl rfl (Nat.le_of_ble_eq_true rfl) (wk_kd hW (by decide) g1) (S43 (Nat.le_trans (by decide) hd) hW hR hT hG ⟨rr.1, rr.2⟩ ⟨g2, g3, g4, g5⟩) ?_
      refine p_ist (ls' := [(2, .int (iz (min (x2 + A (a0 + 2) x3) (A a0 1)))), (0, .ref (lo W a0)), (3, .int (iz x3))]) (cc3 c42_145) (by decide) rfl ?_
      obtain ⟨g6, h⟩ := h
      refine (fun _ : Rg (x3 - 1) => i_iinc (n := (-1)) (y := x3 - 1) (ls' := [(3, .int (iz (x3 - 1))), (2, .int (iz (min (x2 + A (a0 + 2) x3) (A a0 1)))), (0, .ref (lo W a0))]) (cc3 c42_146) (by decide) rfl zl_m1 (by first | rfl | omega) rfl ?_) g6
      refine p_goto (cc3 c42_149) ?_
      exact p_lc (ls' := [(0, .ref (lo W a0)), (2, .int (iz (min (x2 + A (a0 + 2) x3) (A a0 1)))), (3, .int (iz (x3 - 1)))]) c42_128 rfl rfl h
/-- the warp is wound up to t -/
abbrev SeF (A : Nat → Int → Int) (a : Nat) (n t : Int) : Prop := ∀ x : Int, 0 ≤ x → x < t → A (a + 4) x = cF (A (a + 2)) (A (a + 1)) n n.toNat 0 x
abbrev SeC (A : Nat → Int → Int) (a : Nat) (t : Int) : Prop := ∀ k : Nat, (k : Int) < t → A (a + 3) k = sm (A (a + 2)) k + (A (a + 2) k - 1).tdiv 2
abbrev SeN (A : Nat → Int → Int) (a : Nat) (n : Int) : Prop := ∀ k : Int, 0 ≤ k → k < n → (0 ≤ A (a + 1) k ∧ A (a + 1) k ≤ 7) ∧ 1 ≤ A (a + 2) k ∧ A (a + 2) k ≤ 999
theorem OSt.to {W : gW} {P : Nat → Int → Nat} {A A' : Nat → Int → Int} {a : Nat} (h : OSt W P A a) (h0 : A' a = A a) (h3 : ∀ k : Int, 0 ≤ k → k < A a 0 → 0 ≤ A' (a + 3) k ∧ A' (a + 3) k ≤ 10000) : OSt W P A' a := by
  obtain ⟨q1, q2, q3, q4, q5⟩ := h
  unfold OSt
  rw [h0]
  exact ⟨q1, q2, q3, q4, h3⟩
theorem L42b {d : Nat} (hd : 2 ≤ d) {Q : Option Value → xM → Prop} {W : gW} (hW : HW W) {P : Nat → Int → Nat} (hT : Stat W P) (hG : GL W) {a : Nat} {n p : Nat} {A0 : Nat → Int → Int} (h0 : A0 a 0 = (n : Int) ∧ A0 a 1 = (p : Int)) (ht2 : ¬ A0 a 2 = 0) (hN : SeN A0 a n) (hp : (p : Int) = sm (A0 (a + 2)) n + Bk (A0 (a + 2)) ((n : Int) - 2).toNat)
    (hQ : ∀ A', RG A' → OSt W P A' a → (∀ c, ¬ c = a + 4 → A' c = A0 c) → SeF A' a n p → Q none (Wm W A' P)) : ∀ (s : Nat) (A : Nat → Int → Int) (t : Int), (s : Int) ≤ (n : Int) - 2 ∨ s = 0 → RG A → OSt W P A a → (∀ c, ¬ c = a + 4 → A c = A0 c) → t = sm (A0 (a + 2)) n + (Bk (A0 (a + 2)) ((n : Int) - 2).toNat - Bk (A0 (a + 2)) s) → SeF A a n t → wpE (xT 42) (xev xT d) Q (128, [(0, .ref (lo W a)), (2, .int (iz t)), (3, .int (iz s))], [], Wm W A P) := by
  intro s
  induction s with
  | zero =>
    intro A t _ hR hO hF ht hS
    have tp : t = p := by rw [hp, ht]; show _ + (_ - 0) = _; omega
    have hq : Q none (Wm W A P) := hQ A hR hO hF (tp ▸ hS)
    exact V42_128 hd hW hR hT hG ⟨by have := hO.2.2.1.2.1; have e := h0.2; rw [← hF a (by omega)] at e; constructor <;> omega, by decide⟩ ⟨hO.1.1, fun _ => hq, fun _ => ⟨fun _ => hq, fun z => absurd (Int.le_refl 0) z⟩⟩
  | succ s ih =>
    intro A t hs hR hO hF ht hS
    have e0 : A a = A0 a := hF a (by omega)
    have e1 : A (a + 1) = A0 (a + 1) := hF (a + 1) (by omega)
    have e2 : A (a + 2) = A0 (a + 2) := hF (a + 2) (by omega)
    have e3 : A (a + 3) = A0 (a + 3) := hF (a + 3) (by omega)
    have p4 : (p : Int) ≤ 400 := by have := hO.2.2.1.2.1; have e := h0.2; rw [← e0] at e; omega
    have n10 : (n : Int) ≤ 10 := by have := hO.2.2.1.1; have e := h0.1; rw [← e0] at e; omega
    have hw : ∀ k : Nat, k < n → 0 ≤ A0 (a + 2) k := fun k hk => by have := (hN k (by omega) (by omega)).2.1; omega
    have sn : 0 ≤ sm (A0 (a + 2)) n := sm_nn hw
    have bm : Bk (A0 (a + 2)) (s + 1) ≤ Bk (A0 (a + 2)) ((n : Int) - 2).toNat := Bk_mono (fun k hk => hw k (by omega)) (by omega)
    have b1 : Bk (A0 (a + 2)) (s + 1) = Bk (A0 (a + 2)) s + A0 (a + 2) ((s : Int) + 1) := rfl
    have b0 : 0 ≤ Bk (A0 (a + 2)) s := Bk_nn (fun k hk => hw k (by omega))
    have hNs := hN ((s : Int) + 1) (by omega) (by omega)
    have tn : 0 ≤ t ∧ t + A0 (a + 2) ((s : Int) + 1) ≤ p := by omega
    have hc : ((s + 1 : Nat) : Int) = (s : Int) + 1 := by omega
    rw [hc]
    refine V42_128 hd hW hR hT hG ⟨by constructor <;> omega, by constructor <;> omega⟩ ⟨hO.1.1, fun z => ?_, fun _ => ⟨fun z => absurd z (by omega), fun _ => ⟨hO, by omega, ⟨by omega, by rw [e0, h0.1]; omega⟩, by rw [e2]; omega, ⟨by omega, by omega⟩, ?_⟩⟩⟩
    · exact absurd (show A0 a 2 = 0 by rw [← e0]; exact z) ht2
    · rw [e2, e1, e0, h0.2, b8_s hNs.1, show min (t + A0 (a + 2) ((s : Int) + 1)) (p : Int) = t + A0 (a + 2) ((s : Int) + 1) by omega, show (s : Int) + 1 - 1 = s by omega]
      have k4 : ∀ c, ¬ c = a + 4 → kfw A (a + 4) (A0 (a + 1) ((s : Int) + 1)) t (t + A0 (a + 2) ((s : Int) + 1)) c = A c := fun c hc => kfw_c hc
      refine ih _ _ (by omega) (rg_kfw hR ⟨by omega, by omega⟩) (hO.to (k4 a (by omega)) (fun k q1 q2 => by rw [k4 (a + 3) (by omega)]; exact hO.2.2.2.2 k q1 q2)) (fun c hc => (k4 c hc).trans (hF c hc)) (by omega) (fun x x0 x1 => ?_)
      rw [k4 (a + 2) (by omega), k4 (a + 1) (by omega), e2, e1, Int.toNat_natCast]
      unfold kfw
      by_cases q : t ≤ x
      · rw [if_pos ⟨rfl, q, x1⟩]
        exact (cB_in hw (s := s) (by omega) (by omega) (by omega)).symm
      · rw [if_neg (fun z => q z.2.1), hS x x0 (by omega), e2, e1, Int.toNat_natCast]
theorem L42a {d : Nat} (hd : 2 ≤ d) {Q : Option Value → xM → Prop} {W : gW} (hW : HW W) {P : Nat → Int → Nat} (hT : Stat W P) (hG : GL W) {a : Nat} {n p : Nat} {A0 : Nat → Int → Int} (h0 : A0 a 0 = (n : Int) ∧ A0 a 1 = (p : Int)) (hN : SeN A0 a n) (hp : (p : Int) = if A0 a 2 = 0 then sm (A0 (a + 2)) n else sm (A0 (a + 2)) n + Bk (A0 (a + 2)) ((n : Int) - 2).toNat)
    (hQ : ∀ A', RG A' → OSt W P A' a → (∀ c, ¬ c = a + 3 → ¬ c = a + 4 → A' c = A0 c) → SeF A' a n p → SeC A' a n → Q none (Wm W A' P)) : ∀ (r i : Nat) (A : Nat → Int → Int) (t : Int), i + r = n → RG A → OSt W P A a → (∀ c, ¬ c = a + 3 → ¬ c = a + 4 → A c = A0 c) → t = sm (A0 (a + 2)) i → SeF A a n t → SeC A a i → wpE (xT 42) (xev xT d) Q (82, [(0, .ref (lo W a)), (2, .int (iz t)), (3, .int (iz i))], [], Wm W A P) := by
  intro r
  induction r with
  | zero =>
    intro i A t hi hR hO hF ht hS hC
    have e0 : A a = A0 a := hF a (by omega) (by omega)
    have e1 : A (a + 1) = A0 (a + 1) := hF (a + 1) (by omega) (by omega)
    have e2 : A (a + 2) = A0 (a + 2) := hF (a + 2) (by omega) (by omega)
    have p4 : (p : Int) ≤ 400 := by have := hO.2.2.1.2.1; have e := h0.2; rw [← e0] at e; omega
    have n10 : (1 : Int) ≤ n ∧ (n : Int) ≤ 10 := by have := hO.2.2.1.1; have e := h0.1; rw [← e0] at e; omega
    have hw : ∀ k : Nat, k < n → 0 ≤ A0 (a + 2) k := fun k hk => by have := (hN k (by omega) (by omega)).2.1; omega
    have bn : 0 ≤ Bk (A0 (a + 2)) ((n : Int) - 2).toNat := Bk_nn (fun k hk => hw k (by omega))
    have sn : 0 ≤ sm (A0 (a + 2)) n := sm_nn hw
    have hin : i = n := by omega
    subst hin
    have tp : 0 ≤ t ∧ t ≤ p := by rw [hp, ht]; split <;> omega
    refine V42_82 hd hW hR hT hG ⟨by constructor <;> omega, by constructor <;> omega⟩ ⟨hO.1.1, fun _ => ⟨by rw [e0, h0.1]; constructor <;> omega, ?_⟩, fun z => absurd (by rw [e0, h0.1]; exact Int.le_refl _) z⟩
    rw [e0, h0.1]
    have done : t = (p : Int) → Q none (Wm W A P) := fun e => hQ A hR hO hF (e ▸ hS) hC
    by_cases c2 : A a 2 = 0
    · have tpe : t = p := by rw [hp, ht, ← e0, if_pos c2]
      exact V42_128 hd hW hR hT hG ⟨by constructor <;> omega, by constructor <;> omega⟩ ⟨hO.1.1, fun _ => done tpe, fun z => absurd c2 z⟩
    · have c2' : ¬ A0 a 2 = 0 := by rw [← e0]; exact c2
      rw [if_neg c2'] at hp
      by_cases c3 : (i : Int) - 2 ≤ 0
      · have tpe : t = p := by
          rw [hp, ht, show ((i : Int) - 2).toNat = 0 by omega]
          show _ = _ + 0
          omega
        exact V42_128 hd hW hR hT hG ⟨by constructor <;> omega, by constructor <;> omega⟩ ⟨hO.1.1, fun z => absurd z c2, fun _ => ⟨fun _ => done tpe, fun z => absurd c3 z⟩⟩
      · have key := L42b hd (Q := Q) hW hT hG (a := a) (n := i) (p := p) (A0 := A) ⟨by rw [e0]; exact h0.1, by rw [e0]; exact h0.2⟩ c2 (by rw [SeN, e1, e2]; exact hN) (by rw [e2]; exact hp) (fun A' hR' hO' hF' hS' => hQ A' hR' hO' (fun c q1 q2 => (hF' c q2).trans (hF c q1 q2)) hS' (fun k hk => by rw [hF' (a + 3) (by omega), hF' (a + 2) (by omega)]; exact hC k hk)) ((i : Int) - 2).toNat A t (by omega) hR hO (fun c _ => rfl) (by rw [ht, e2]; omega) hS
        rw [show (((i : Int) - 2).toNat : Int) = (i : Int) - 2 by omega] at key
        exact key
  | succ r ih =>
    intro i A t hi hR hO hF ht hS hC
    have e0 : A a = A0 a := hF a (by omega) (by omega)
    have e1 : A (a + 1) = A0 (a + 1) := hF (a + 1) (by omega) (by omega)
    have e2 : A (a + 2) = A0 (a + 2) := hF (a + 2) (by omega) (by omega)
    have p4 : (p : Int) ≤ 400 := by have := hO.2.2.1.2.1; have e := h0.2; rw [← e0] at e; omega
    have n10 : (1 : Int) ≤ n ∧ (n : Int) ≤ 10 := by have := hO.2.2.1.1; have e := h0.1; rw [← e0] at e; omega
    have hw : ∀ k : Nat, k < n → 0 ≤ A0 (a + 2) k := fun k hk => by have := (hN k (by omega) (by omega)).2.1; omega
    have bn : 0 ≤ Bk (A0 (a + 2)) ((n : Int) - 2).toNat := Bk_nn (fun k hk => hw k (by omega))
    have s1 : sm (A0 (a + 2)) (i + 1) = sm (A0 (a + 2)) i + A0 (a + 2) i := rfl
    have sn : sm (A0 (a + 2)) (i + 1) ≤ sm (A0 (a + 2)) n := sm_mono hw (by omega)
    have s0 : 0 ≤ sm (A0 (a + 2)) i := sm_nn (fun k hk => hw k (by omega))
    have hNs := hN i (by omega) (by omega)
    have tn : 0 ≤ t ∧ t + A0 (a + 2) i ≤ p := by
      have : sm (A0 (a + 2)) n ≤ p := by rw [hp]; split <;> omega
      omega
    have td : 0 ≤ (A0 (a + 2) i - 1).tdiv 2 ∧ (A0 (a + 2) i - 1).tdiv 2 ≤ 999 := by rw [tdiv_pos (by omega)]; omega
    have uc : ∀ v c, ¬ c = a + 3 → UA A (a + 3) i v c = A c := fun v c h => funext fun j => UA_c h
    have rv : Rg (t + (A0 (a + 2) i - 1).tdiv 2) := ⟨by omega, by omega⟩
    have R1 : RG (UA A (a + 3) i (t + (A0 (a + 2) i - 1).tdiv 2)) := rg_UA hR rv
    have O1 : OSt W P (UA A (a + 3) i (t + (A0 (a + 2) i - 1).tdiv 2)) a := hO.to (uc _ a (by omega)) (fun k q1 q2 => by
      by_cases q : k = i
      · rw [q, UA_eq]; omega
      · rw [UA_j q]; exact hO.2.2.2.2 k q1 q2)
    have g2 : (gL W (a + 2) : Int) = n := by rw [hO.2.2.2.1.2.1, e0, h0.1]
    have g3 : (gL W (a + 3) : Int) = n := by rw [hO.2.2.2.1.2.2.1, e0, h0.1]
    refine V42_82 hd hW hR hT hG ⟨by constructor <;> omega, by constructor <;> omega⟩ ⟨hO.1.1, fun z => absurd z (by rw [e0, h0.1]; omega), fun _ => ?_⟩
    rw [e2]
    refine ⟨hO.2.1.2.2.1, hO.2.1.2.1, hO.1.2.2.1, ⟨by omega, by omega, by omega⟩, ⟨by omega, by omega⟩, rv, hO.1.2.2.2.1, ⟨by omega, by omega, by omega⟩, O1, by omega, ⟨by omega, by rw [uc _ a (by omega), e0, h0.1]; omega⟩, by rw [uc _ (a + 2) (by omega), e2]; omega, ⟨by omega, by omega⟩, ?_⟩
    rw [uc _ (a + 2) (by omega), uc _ (a + 1) (by omega), uc _ a (by omega), e2, e1, e0, h0.2, b8_s hNs.1, show min (t + A0 (a + 2) i) (p : Int) = t + A0 (a + 2) i by omega]
    have k4 : ∀ c, ¬ c = a + 4 → kfw (UA A (a + 3) i (t + (A0 (a + 2) i - 1).tdiv 2)) (a + 4) (A0 (a + 1) i) t (t + A0 (a + 2) i) c = UA A (a + 3) i (t + (A0 (a + 2) i - 1).tdiv 2) c := fun c hc => kfw_c hc
    have hc : (i : Int) + 1 = ((i + 1 : Nat) : Int) := by omega
    rw [hc]
    refine ih (i + 1) _ _ (by omega) (rg_kfw R1 ⟨by omega, by omega⟩) (O1.to (k4 a (by omega)) (fun k q1 q2 => by rw [k4 (a + 3) (by omega)]; exact O1.2.2.2.2 k q1 q2)) (fun c q1 q2 => (k4 c q2).trans ((uc _ c q1).trans (hF c q1 q2))) (by omega) (fun x x0 x1 => ?_) (fun k hk => ?_)
    · rw [k4 (a + 2) (by omega), k4 (a + 1) (by omega), uc _ (a + 2) (by omega), uc _ (a + 1) (by omega), e2, e1, Int.toNat_natCast]
      unfold kfw
      by_cases q : t ≤ x
      · rw [if_pos ⟨rfl, q, x1⟩]
        exact (cF_in hw (n : Int) (i := i) (by omega) (by omega) (by omega)).symm
      · rw [if_neg (fun z => q z.2.1), uc _ (a + 4) (by omega), hS x x0 (by omega), e2, e1, Int.toNat_natCast]
    · rw [k4 (a + 2) (by omega), k4 (a + 3) (by omega), uc _ (a + 2) (by omega)]
      by_cases q : k = i
      · rw [q, UA_eq, e2, ht]
      · rw [UA_j (by omega)]
        exact hC k (by omega)
