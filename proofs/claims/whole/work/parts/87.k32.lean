theorem V62_0 {d : Nat} (hd : 2 ≤ d) {Q : Option Value → xM → Prop} {W : gW} (hW : HW W) {A : Nat → Int → Int} {P : Nat → Int → Nat} (hR : RG A) (hT : Stat W P) (hG : GL W) {x1 x2 x3 x4 x5 x6 : Int} {a0 : Nat} (rr : Rg x1 ∧ Rg x2 ∧ Rg x3 ∧ Rg x4 ∧ Rg x5 ∧ Rg x6) (h : (gK W a0 = 3) ∧ (4 ≤ x2 ∧ x2 ≤ 40) ∧ (20 ≤ x3 ∧ x3 ≤ 60) ∧ (4 ≤ x4 ∧ x4 ≤ 24) ∧ (Rg (x3 * x2)) ∧ (Rg (x4 * (x3 * x2 / (2 * x4)))) ∧ (Rg ((x3 * x2) - (x4 * (x3 * x2 / (2 * x4))))) ∧ (0 ≤ x2 ∧ x2 ≤ 100) ∧ (0 ≤ x3 - x5 ∧ x3 - x5 ≤ 100) ∧ (StyA (UA (UA (UA (UA (UA (UA (UA (UA (UA (UA (UA A a0 12 (-1)) a0 13 (-1)) a0 0 x1) a0 1 x2) a0 2 x3) a0 4 x4) a0 3 x5) a0 5 x6) a0 6 (x3 * x2 / (2 * x4))) a0 7 ((x3 * x2) - (x4 * (x3 * x2 / (2 * x4))))) a0 8 ((x3 - x5) * x2 / 2))) ∧ (0 ≤ x1 ∧ x1 ≤ 5) ∧ wpE (xT 62) (xev xT d) Q (94, [(0, .ref (lo W a0)), (1, .int (iz x1)), (2, .int (iz x2)), (3, .int (iz x3)), (4, .int (iz x4)), (5, .int (iz x5)), (6, .int (iz x6))], [.ref (lo W a0)], Wm W (UA (UA (UA (UA (UA (UA (UA (UA (UA (UA (UA (UA A a0 12 (-1)) a0 13 (-1)) a0 0 x1) a0 1 x2) a0 2 x3) a0 4 x4) a0 3 x5) a0 5 x6) a0 6 (x3 * x2 / (2 * x4))) a0 7 ((x3 * x2) - (x4 * (x3 * x2 / (2 * x4))))) a0 8 ((x3 - x5) * x2 / 2)) a0 9 (bI (kAb x1 1))) P)) : wpE (xT 62) (xev xT d) Q (0, [(0, .ref (lo W a0)), (1, .int (iz x1)), (2, .int (iz x2)), (3, .int (iz x3)), (4, .int (iz x4)), (5, .int (iz x5)), (6, .int (iz x6))], [], Wm W A P) := by
  refine p_ald (cc3 c62_0) rfl ?_
  refine p_obj (cc3 c62_1) (Nat.le_of_ble_eq_true rfl) ?_
  refine p_ald (cc3 c62_4) rfl ?_
  refine i_push (n := (-1)) (cc3 c62_5) zl_m1 ?_
  obtain ⟨g1, h⟩ := h
  refine id (α := Rg (-1) → _) (fun _ => ?_) (by decide : Rg (-1 : Int)); refine w_puti hW (cc3 c62_6) g1 (ji := 12) rfl ?_
  refine p_ald (cc3 c62_9) rfl ?_
  refine i_push (n := (-1)) (cc3 c62_10) zl_m1 ?_
  refine id (α := Rg (-1) → _) (fun _ => ?_) (by decide : Rg (-1 : Int)); refine w_puti hW (cc3 c62_11) g1 (ji := 13) rfl ?_
  refine p_ald (cc3 c62_14) rfl ?_
  refine p_ild (cc3 c62_15) rfl ?_
  refine id (α := Rg x1 → _) (fun _ => ?_) rr.1; refine w_puti hW (cc3 c62_16) g1 (ji := 0) rfl ?_
  refine p_ald (cc3 c62_19) rfl ?_
  refine p_ild (cc3 c62_20) rfl ?_
  refine id (α := Rg x2 → _) (fun _ => ?_) rr.2.1; refine w_puti hW (cc3 c62_21) g1 (ji := 1) rfl ?_
  refine p_ald (cc3 c62_24) rfl ?_
  refine p_ild (cc3 c62_25) rfl ?_
  refine id (α := Rg x3 → _) (fun _ => ?_) rr.2.2.1; refine w_puti hW (cc3 c62_26) g1 (ji := 2) rfl ?_
  refine p_ald (cc3 c62_29) rfl ?_
  refine p_ild (cc3 c62_30) rfl ?_
  refine id (α := Rg x4 → _) (fun _ => ?_) rr.2.2.2.1; refine w_puti hW (cc3 c62_32) g1 (ji := 4) rfl ?_
  refine p_ald (cc3 c62_35) rfl ?_
  refine p_ild (cc3 c62_36) rfl ?_
  refine id (α := Rg x5 → _) (fun _ => ?_) rr.2.2.2.2.1; refine w_puti hW (cc3 c62_38) g1 (ji := 3) rfl ?_
  refine p_ald (cc3 c62_41) rfl ?_
  refine p_ild (cc3 c62_42) rfl ?_
  refine id (α := Rg x6 → _) (fun _ => ?_) rr.2.2.2.2.2; refine w_puti hW (cc3 c62_44) g1 (ji := 5) rfl ?_
  refine p_ald (cc3 c62_47) rfl ?_
  refine p_ild (cc3 c62_48) rfl ?_
  refine p_ild (cc3 c62_49) rfl ?_
  refine p_ild (cc3 c62_50) rfl ?_
  obtain ⟨g2, h⟩ := h
  obtain ⟨g3, h⟩ := h
  obtain ⟨g4, h⟩ := h
  refine p_callS (cc3 c62_52) (Nat.le_of_ble_eq_true rfl) rfl rfl (Nat.le_of_ble_eq_true rfl) (S60 (Nat.le_trans (by decide) hd) ⟨rr.2.1, rr.2.2.1, rr.2.2.2.1⟩ ⟨g2, g3, g4⟩) ?_
  refine id (α := Rg (x3 * x2 / (2 * x4)) → _) (fun _ => ?_) (rg_wid ⟨g2, g3, g4⟩); refine w_puti hW (cc3 c62_55) g1 (ji := 6) rfl ?_
  refine p_ald (cc3 c62_58) rfl ?_
  refine p_ild (cc3 c62_59) rfl ?_
  refine p_ild (cc3 c62_60) rfl ?_
  obtain ⟨g5, h⟩ := h
  refine (fun _ : Rg (x3 * x2) => i_mul (cc3 c62_61) ?_) g5
  refine p_ild (cc3 c62_62) rfl ?_
  refine p_ald (cc3 c62_64) rfl ?_
  refine w_geti hW (v := x3 * x2 / (2 * x4)) (cc3 c62_65) g1 (ji := 6) rfl (by first | rfl | exact UA_eq | exact UA_j (by decide) | exact UA_c (by decide)) ?_
  obtain ⟨g6, h⟩ := h
  refine (fun _ : Rg (x4 * (x3 * x2 / (2 * x4))) => i_mul (cc3 c62_68) ?_) g6
  obtain ⟨g7, h⟩ := h
  refine (fun _ : Rg ((x3 * x2) - (x4 * (x3 * x2 / (2 * x4)))) => i_sub (cc3 c62_69) ?_) g7
  refine id (α := Rg ((x3 * x2) - (x4 * (x3 * x2 / (2 * x4)))) → _) (fun _ => ?_) g7; refine w_puti hW (cc3 c62_70) g1 (ji := 7) rfl ?_
  refine p_ald (cc3 c62_73) rfl ?_
  refine p_ild (cc3 c62_74) rfl ?_
  refine p_ild (cc3 c62_75) rfl ?_
  refine p_ild (cc3 c62_76) rfl ?_
  obtain ⟨g8, h⟩ := h
  obtain ⟨g9, h⟩ := h
  refine p_callS (cc3 c62_78) (Nat.le_of_ble_eq_true rfl) rfl rfl (Nat.le_of_ble_eq_true rfl) (S59 (Nat.le_trans (by decide) hd) ⟨rr.2.1, rr.2.2.1, rr.2.2.2.2.1⟩ ⟨g8, g9⟩) ?_
  refine id (α := Rg ((x3 - x5) * x2 / 2) → _) (fun _ => ?_) (rg_tap ⟨g8, g9⟩); refine w_puti hW (cc3 c62_81) g1 (ji := 8) rfl ?_
  refine p_ald (cc3 c62_84) rfl ?_
  refine p_ild (cc3 c62_85) rfl ?_
  refine i_push (n := 1) (cc3 c62_86) zl_1 ?_
  obtain ⟨g10, h⟩ := h
  obtain ⟨g11, h⟩ := h
  refine p_callS (cc3 c62_87) (Nat.le_of_ble_eq_true rfl) rfl rfl (Nat.le_of_ble_eq_true rfl) (S63 (Nat.le_trans (by decide) hd) hW (rg_UA (rg_UA (rg_UA (rg_UA (rg_UA (rg_UA (rg_UA (rg_UA (rg_UA (rg_UA (rg_UA hR (by decide : Rg (-1 : Int))) (by decide : Rg (-1 : Int))) rr.1) rr.2.1) rr.2.2.1) rr.2.2.2.1) rr.2.2.2.2.1) rr.2.2.2.2.2) (rg_wid ⟨g2, g3, g4⟩)) g7) (rg_tap ⟨g8, g9⟩)) hT hG ⟨rr.1, (by decide : Rg (1 : Int))⟩ ⟨g10, g11⟩) ?_
  refine id (α := Rg (bI (kAb x1 1)) → _) (fun _ => ?_) rg_bI; refine w_putb hW (cc3 c62_90) g1 (ji := 9) rfl bI_01 ?_
  refine p_ald (cc3 c62_93) rfl ?_
  exact h
theorem V62_97 {d : Nat} (hd : 2 ≤ d) {Q : Option Value → xM → Prop} {W : gW} (hW : HW W) {A : Nat → Int → Int} {P : Nat → Int → Nat} (hR : RG A) (hT : Stat W P) (hG : GL W) {x1 x2 x3 x4 x5 x6 : Int} {a0 b0 b1 : Nat} (rr : Rg x1 ∧ Rg x2 ∧ Rg x3 ∧ Rg x4 ∧ Rg x5 ∧ Rg x6) (h : wpE (xT 62) (xev xT d) Q (100, [(0, .ref (lo W a0)), (1, .int (iz x1)), (2, .int (iz x2)), (3, .int (iz x3)), (4, .int (iz x4)), (5, .int (iz x5)), (6, .int (iz x6))], [.int (iz x4), .ref (lo W b0), .ref (lo W b0), .ref (lo W b1)], Wm W A P)) : wpE (xT 62) (xev xT d) Q (97, [(0, .ref (lo W a0)), (1, .int (iz x1)), (2, .int (iz x2)), (3, .int (iz x3)), (4, .int (iz x4)), (5, .int (iz x5)), (6, .int (iz x6))], [.ref (lo W b0), .ref (lo W b1)], Wm W A P) := by
  refine p_dup (cc3 c62_97) rfl ?_
  refine p_ild (cc3 c62_98) rfl ?_
  exact h
theorem V62_103 {d : Nat} (hd : 2 ≤ d) {Q : Option Value → xM → Prop} {W : gW} (hW : HW W) {A : Nat → Int → Int} {P : Nat → Int → Nat} (hR : RG A) (hT : Stat W P) (hG : GL W) {x1 x2 x3 x4 x5 x6 : Int} {a0 b0 b1 : Nat} (rr : Rg x1 ∧ Rg x2 ∧ Rg x3 ∧ Rg x4 ∧ Rg x5 ∧ Rg x6) (h : (gK W b1 = 3) ∧ (NZ W b0) ∧ Q none (Wm W A (UP P b1 10 (b0 + 1)))) : wpE (xT 62) (xev xT d) Q (103, [(0, .ref (lo W a0)), (1, .int (iz x1)), (2, .int (iz x2)), (3, .int (iz x3)), (4, .int (iz x4)), (5, .int (iz x5)), (6, .int (iz x6))], [.ref (lo W b0), .ref (lo W b1)], Wm W A P) := by
  obtain ⟨g1, h⟩ := h
  obtain ⟨g2, h⟩ := h
  refine w_putp hW (cc3 c62_103) g1 (ji := 10) rfl g2 ?_
  exact p_rv (cc3 c62_106) h
abbrev KlW (W : gW) (a n : Nat) : gW := LgW (gN W (a + 1) 5 7) (a + 1) n
abbrev KlA0 (A : Nat → Int → Int) (a : Nat) (x1 x2 x3 x4 x5 x6 : Int) : Nat → Int → Int := UA (UA (UA (UA (UA (UA (UA (UA (UA (UA (UA (UA A a 12 (-1)) a 13 (-1)) a 0 x1) a 1 x2) a 2 x3) a 4 x4) a 3 x5) a 5 x6) a 6 (x3 * x2 / (2 * x4))) a 7 ((x3 * x2) - (x4 * (x3 * x2 / (2 * x4))))) a 8 ((x3 - x5) * x2 / 2)) a 9 (bI (kAb x1 1))
abbrev KlA (A : Nat → Int → Int) (a : Nat) (x1 x2 x3 x4 x5 x6 : Int) : Nat → Int → Int := LgA (ZA (KlA0 A a x1 x2 x3 x4 x5 x6) (a + 1)) (a + 1)
abbrev KlP (P : Nat → Int → Nat) (a : Nat) : Nat → Int → Nat := UP (LgP (ZP P (a + 1)) (a + 1)) a 10 ((a + 1) + 1)
theorem S62 {d : Nat} (hd : 3 ≤ d) {W : gW} (hW : HW W) {A : Nat → Int → Int} {P : Nat → Int → Nat} (hR : RG A) (hT : Stat W P) (hG : GL W) {x1 x2 x3 x4 x5 x6 : Int} {a : Nat} (rr : Rg x1 ∧ Rg x2 ∧ Rg x3 ∧ Rg x4 ∧ Rg x5 ∧ Rg x6) (ha : 29 ≤ a ∧ gK W a = 3 ∧ gK W (a + 1) = 0 ∧ gK W (a + 2) = 0 ∧ gK W (a + 3) = 0) (hs : StyA A ∧ ¬ a = 530)
    (hx : (0 ≤ x1 ∧ x1 ≤ 5) ∧ (4 ≤ x2 ∧ x2 ≤ 40) ∧ (20 ≤ x3 ∧ x3 ≤ 60) ∧ (4 ≤ x4 ∧ x4 ≤ 24) ∧ (20 ≤ x5 ∧ x5 ≤ x3)) : xev xT d 62 [.ref (lo W a), .int (iz x1), .int (iz x2), .int (iz x3), .int (iz x4), .int (iz x5), .int (iz x6)] (Wm W A P) none (Wm (KlW W a x4.toNat) (KlA A a x1 x2 x3 x4 x5 x6) (KlP P a)) ∧ HW (KlW W a x4.toNat) ∧ RG (KlA A a x1 x2 x3 x4 x5 x6) ∧ Stat (KlW W a x4.toNat) (KlP P a) ∧ GL (KlW W a x4.toNat) := by
  obtain ⟨h9, h3, h1, h2, h4⟩ := ha
  obtain ⟨hs, ns⟩ := hs
  obtain ⟨y1, y2, y3, y4, y5⟩ := hx
  have b1 : 80 ≤ x3 * x2 ∧ x3 * x2 ≤ 2400 := ⟨by have := Int.mul_le_mul y3.1 y2.1 (by decide) (by omega); omega, by have := Int.mul_le_mul y3.2 y2.2 (by omega) (by decide); omega⟩
  have b2 : 0 ≤ x3 * x2 / (2 * x4) ∧ x3 * x2 / (2 * x4) ≤ 2400 := ⟨Int.ediv_nonneg (by omega) (by omega), by have := Int.ediv_le_self (2 * x4) (show 0 ≤ x3 * x2 by omega); omega⟩
  have b3 : x4 * (x3 * x2 / (2 * x4)) ≤ x3 * x2 := by
    have q : (x3 * x2 / (2 * x4)) * (2 * x4) ≤ x3 * x2 := Int.ediv_mul_le _ (by omega)
    have q2 : (x3 * x2 / (2 * x4)) * (2 * x4) = 2 * (x4 * (x3 * x2 / (2 * x4))) := by rw [Int.mul_comm, Int.mul_assoc]
    have q3 : 0 ≤ x4 * (x3 * x2 / (2 * x4)) := Int.mul_nonneg (by omega) b2.1
    omega
  have b4 : 0 ≤ x4 * (x3 * x2 / (2 * x4)) := Int.mul_nonneg (by omega) b2.1
  have b5 : 0 ≤ (x3 - x5) * x2 / 2 ∧ (x3 - x5) * x2 / 2 ≤ 2400 := by
    have q1 : 0 ≤ (x3 - x5) * x2 := Int.mul_nonneg (by omega) (by omega)
    have q2 : (x3 - x5) * x2 ≤ x3 * x2 := Int.mul_le_mul_of_nonneg_right (by omega) (by omega)
    omega
  have W1 : HW (gN W (a + 1) 5 7) := gN_ok hW h1 (by decide)
  have T1 : Stat (gN W (a + 1) 5 7) (ZP P (a + 1)) := hT.gN hG h1 (by omega) (by decide)
  have G1 : GL (gN W (a + 1) 5 7) := hG.gN h1
  have R0 : RG (KlA0 A a x1 x2 x3 x4 x5 x6) := rg_UA (rg_UA (rg_UA (rg_UA (rg_UA (rg_UA (rg_UA (rg_UA (rg_UA (rg_UA (rg_UA (rg_UA hR (by decide)) (by decide)) rr.1) rr.2.1) rr.2.2.1) rr.2.2.2.1) rr.2.2.2.2.1) rr.2.2.2.2.2) ⟨by omega, by omega⟩) ⟨by omega, by omega⟩) ⟨by omega, by omega⟩) rg_bI
  have R1 : RG (ZA (KlA0 A a x1 x2 x3 x4 x5 x6) (a + 1)) := rg_ZA R0
  have k1 : gK (gN W (a + 1) 5 7) (a + 1) = 5 := gN_K_e
  have k2 : gK (gN W (a + 1) 5 7) ((a + 1) + 1) = 0 := by rw [gN_K_n (by omega)]; exact h2
  have k3 : gK (gN W (a + 1) 5 7) ((a + 1) + 2) = 0 := by rw [gN_K_n (by omega)]; exact h4
  have k2' : gK (gN (gN W (a + 1) 5 7) ((a + 1) + 1) 20 x4.toNat) ((a + 1) + 2) = 0 := by rw [gN_K_n (by omega)]; exact k3
  have l1 : lo (gN W (a + 1) 5 7) a = lo W a := gN_lo_n (by omega)
  have l2 : ∀ c, c = a ∨ c = a + 1 → lo (KlW W a x4.toNat) c = lo (gN W (a + 1) 5 7) c := fun c hc => by
    show lo (gN (gN _ _ _ _) _ _ _) c = _
    rw [gN_lo_n (by omega), gN_lo_n (by omega)]
  have key := fun (d : Nat) (hd : 1 ≤ d) => S64 (d := d) hd W1 R1 T1 G1 (x := x4) (a := a + 1) ⟨by omega, k1, k2, k3⟩ ⟨by omega, by omega⟩
  obtain ⟨-, W2, R2, T2, G2⟩ := key 1 (Nat.le_refl 1)
  have k4 : gK (KlW W a x4.toNat) (a + 1) = 5 := by show gK (gN (gN _ _ _ _) _ _ _) _ = 5; rw [gN_K_n (by omega), gN_K_n (by omega)]; exact k1
  have k5 : gK (KlW W a x4.toNat) a = 3 := by show gK (gN (gN _ _ _ _) _ _ _) _ = 3; rw [gN_K_n (by omega), gN_K_n (by omega), gN_K_n (by omega)]; exact h3
  have T3 : Stat (KlW W a x4.toNat) (KlP P a) := Stat.up (v := (a + 1) + 1) T2 (po_d (j := 10) h9 (by decide)) (Or.inr (by rw [NZ, Nat.add_sub_cancel, k4]; decide))
  refine ⟨?_, W2, R2, T3, G2⟩
  have e530 : ∀ j : Int, UA (UA (UA (UA (UA (UA (UA (UA (UA (UA (UA A a 12 (-1)) a 13 (-1)) a 0 x1) a 1 x2) a 2 x3) a 4 x4) a 3 x5) a 5 x6) a 6 (x3 * x2 / (2 * x4))) a 7 ((x3 * x2) - (x4 * (x3 * x2 / (2 * x4))))) a 8 ((x3 - x5) * x2 / 2) 530 j = A 530 j := fun j => by simp only [UA_c (fun z => ns z.symm)]
  refine xev_i (D := 2) hd (Nat.le_of_ble_eq_true rfl) (fun d hd => V62_0 hd hW hR hT hG rr ⟨h3, y2, y3, y4, ⟨by omega, by omega⟩, ⟨by omega, by omega⟩, ⟨by omega, by omega⟩, ⟨by omega, by omega⟩, ⟨by omega, by omega⟩, by unfold StyA; rw [e530, e530, e530, e530, e530, e530]; exact hs, y1, ?_⟩)
  refine w_new hW hT.1 (cc3 c62_94) (a + 1) h1 (fun V1 e1 _ => ?_)
  have e1' : V1 = gN W (a + 1) 5 7 := e1
  subst e1'
  rw [← l1]
  refine V62_97 hd W1 R1 T1 G1 rr ?_
  refine p_callI (cc3 c62_100) (Nat.le_of_ble_eq_true rfl) rfl rfl (Nat.le_of_ble_eq_true rfl) (key d (by omega)).1 ?_
  show wpE _ _ _ (103, _, [.ref (lo (gN W (a + 1) 5 7) (a + 1)), .ref (lo (gN W (a + 1) 5 7) a)], _)
  rw [← l2 a (Or.inl rfl), ← l2 (a + 1) (Or.inr rfl)]
  exact V62_103 hd W2 R2 T2 G2 rr ⟨k5, by rw [NZ, k4]; decide, rfl, rfl⟩
