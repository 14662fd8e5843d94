theorem V64_0 {d : Nat} (hd : 0 ≤ d) {Q : Option Value → xM → Prop} {W : gW} (hW : HW W) {A : Nat → Int → Int} {P : Nat → Int → Nat} (hR : RG A) (hT : Stat W P) (hG : GL W) {x1 : Int} {a0 : Nat} (rr : Rg x1) (h : wpE (xT 64) (xev xT d) Q (6, [(0, .ref (lo W a0)), (1, .int (iz x1))], [.int (iz x1), .ref (lo W a0)], Wm W A P)) : wpE (xT 64) (xev xT d) Q (0, [(0, .ref (lo W a0)), (1, .int (iz x1))], [], Wm W A P) := by
  refine p_ald (cc3 c64_0) rfl ?_
  refine p_obj (cc3 c64_1) (Nat.le_of_ble_eq_true rfl) ?_
  refine p_ald (cc3 c64_4) rfl ?_
  refine p_ild (cc3 c64_5) rfl ?_
  exact h
theorem V64_8 {d : Nat} (hd : 0 ≤ d) {Q : Option Value → xM → Prop} {W : gW} (hW : HW W) {A : Nat → Int → Int} {P : Nat → Int → Nat} (hR : RG A) (hT : Stat W P) (hG : GL W) {x1 : Int} {a0 b0 b1 : Nat} (rr : Rg x1) (h : (29 ≤ b1) ∧ (gK W b1 = 5) ∧ (NZ W b0) ∧ wpE (xT 64) (xev xT d) Q (13, [(0, .ref (lo W a0)), (1, .int (iz x1))], [.int (iz x1), .ref (lo W a0)], Wm W A (UP P b1 0 (b0 + 1)))) : wpE (xT 64) (xev xT d) Q (8, [(0, .ref (lo W a0)), (1, .int (iz x1))], [.ref (lo W b0), .ref (lo W b1)], Wm W A P) := by
  obtain ⟨g1, h⟩ := h
  obtain ⟨g2, h⟩ := h
  obtain ⟨g3, h⟩ := h
  refine id (α := 29 ≤ b1 → _) (fun _ => ?_) g1; refine w_putp hW (cc3 c64_8) g2 (ji := 0) rfl g3 ?_
  refine p_ald (cc3 c64_11) rfl ?_
  refine p_ild (cc3 c64_12) rfl ?_
  exact h
theorem V64_15 {d : Nat} (hd : 0 ≤ d) {Q : Option Value → xM → Prop} {W : gW} (hW : HW W) {A : Nat → Int → Int} {P : Nat → Int → Nat} (hR : RG A) (hT : Stat W P) (hG : GL W) {x1 : Int} {a0 b0 b1 : Nat} (rr : Rg x1) (h : (29 ≤ b1) ∧ (gK W b1 = 5) ∧ (NZ W b0) ∧ Q none (Wm W A (UP P b1 1 (b0 + 1)))) : wpE (xT 64) (xev xT d) Q (15, [(0, .ref (lo W a0)), (1, .int (iz x1))], [.ref (lo W b0), .ref (lo W b1)], Wm W A P) := by
  obtain ⟨g1, h⟩ := h
  obtain ⟨g2, h⟩ := h
  obtain ⟨g3, h⟩ := h
  refine id (α := 29 ≤ b1 → _) (fun _ => ?_) g1; refine w_putp hW (cc3 c64_15) g2 (ji := 1) rfl g3 ?_
  exact p_rv (cc3 c64_18) h
/-- a LAYING at role a is made -/
abbrev LgW (W : gW) (a n : Nat) : gW := gN (gN W (a + 1) 20 n) (a + 2) 20 n
abbrev LgA (A : Nat → Int → Int) (a : Nat) : Nat → Int → Int := ZA (ZA A (a + 1)) (a + 2)
abbrev LgP (P : Nat → Int → Nat) (a : Nat) : Nat → Int → Nat := UP (ZP (UP (ZP P (a + 1)) a 0 ((a + 1) + 1)) (a + 2)) a 1 ((a + 2) + 1)
theorem S64 {d : Nat} (hd : 1 ≤ d) {W : gW} (hW : HW W) {A : Nat → Int → Int} {P : Nat → Int → Nat} (hR : RG A) (hT : Stat W P) (hG : GL W) {x : Int} {a : Nat} (ha : 29 ≤ a ∧ gK W a = 5 ∧ gK W (a + 1) = 0 ∧ gK W (a + 2) = 0) (hx : 0 ≤ x ∧ x ≤ 24) : xev xT d 64 [.ref (lo W a), .int (iz x)] (Wm W A P) none (Wm (LgW W a x.toNat) (LgA A a) (LgP P a)) ∧ HW (LgW W a x.toNat) ∧ RG (LgA A a) ∧ Stat (LgW W a x.toNat) (LgP P a) ∧ GL (LgW W a x.toNat) := by
  obtain ⟨h9, h5, h1, h2⟩ := ha
  have W1 := gN_ok (k := 20) (n := x.toNat) hW h1 (by decide)
  have T1 : Stat (gN W (a + 1) 20 x.toNat) (ZP P (a + 1)) := hT.gN hG h1 (by omega) (by decide)
  have G1 : GL (gN W (a + 1) 20 x.toNat) := hG.gN h1
  have h2' : gK (gN W (a + 1) 20 x.toNat) (a + 2) = 0 := by rw [gN_K_n (by omega)]; exact h2
  have T1' : Stat (gN W (a + 1) 20 x.toNat) (UP (ZP P (a + 1)) a 0 ((a + 1) + 1)) := Stat.up (v := (a + 1) + 1) T1 (po_d (j := 0) h9 (by decide)) (Or.inr (by rw [NZ, Nat.add_sub_cancel, gN_K_e]; decide))
  have T2 : Stat (LgW W a x.toNat) (ZP (UP (ZP P (a + 1)) a 0 ((a + 1) + 1)) (a + 2)) := T1'.gN G1 h2' (by omega) (by decide)
  have T2' : Stat (LgW W a x.toNat) (LgP P a) := Stat.up (v := (a + 2) + 1) T2 (po_d (j := 1) h9 (by decide)) (Or.inr (by rw [NZ, Nat.add_sub_cancel, gN_K_e]; decide))
  have W2 : HW (LgW W a x.toNat) := gN_ok W1 h2' (by decide)
  have G2 : GL (LgW W a x.toNat) := G1.gN h2'
  have R1 : RG (ZA A (a + 1)) := rg_ZA hR
  have l1 : lo (gN W (a + 1) 20 x.toNat) a = lo W a := gN_lo_n (by omega)
  have l2 : lo (LgW W a x.toNat) a = lo W a := (gN_lo_n (by omega)).trans l1
  refine ⟨?_, W2, rg_ZA R1, T2', G2⟩
  refine xev_i (D := 0) hd (Nat.le_of_ble_eq_true rfl) (fun d hd => V64_0 hd hW hR hT hG ⟨by omega, by omega⟩ ?_)
  refine w_newa hW hT.1 (by decide) (cc3 c64_6) (a + 1) ⟨by omega, by omega⟩ h1 (fun V1 e1 _ => ?_)
  subst e1
  rw [← l1]
  refine V64_8 hd W1 R1 T1 G1 ⟨by omega, by omega⟩ ⟨h9, by rw [gN_K_n (by omega)]; exact h5, by rw [NZ, gN_K_e]; decide, ?_⟩
  refine w_newa W1 T1'.1 (by decide) (cc3 c64_13) (a + 2) ⟨by omega, by omega⟩ h2' (fun V2 e2 _ => ?_)
  subst e2
  rw [l1, ← l2]
  exact V64_15 hd W2 (rg_ZA R1) T2 G2 ⟨by omega, by omega⟩ ⟨h9, by rw [gN_K_n (by omega), gN_K_n (by omega)]; exact h5, by rw [NZ, gN_K_e]; decide, rfl, rfl⟩
