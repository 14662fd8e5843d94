theorem V44_0 {d : Nat} (hd : 0 ≤ d) {Q : Option Value → xM → Prop} {W : gW} (hW : HW W) {A : Nat → Int → Int} {P : Nat → Int → Nat} (hR : RG A) (hT : Stat W P) (hG : GL W) {x2 x3 : Int} {a0 a1 : Nat} (rr : Rg x2 ∧ Rg x3) (h : wpE (xT 44) (xev xT d) Q (7, [(0, .ref (lo W a0)), (1, .ref (lo W a1)), (2, .int (iz x2)), (3, .int (iz x3))], [.int (iz 10), .ref (lo W a0)], Wm W A P)) : wpE (xT 44) (xev xT d) Q (0, [(0, .ref (lo W a0)), (1, .ref (lo W a1)), (2, .int (iz x2)), (3, .int (iz x3))], [], Wm W A P) := by
  refine p_ald (cc3 c44_0) rfl ?_
  refine p_obj (cc3 c44_1) (Nat.le_of_ble_eq_true rfl) ?_
  refine p_ald (cc3 c44_4) rfl ?_
  refine i_push (n := 10) (cc3 c44_5) zl_10 ?_
  exact h
theorem V44_9 {d : Nat} (hd : 0 ≤ d) {Q : Option Value → xM → Prop} {W : gW} (hW : HW W) {A : Nat → Int → Int} {P : Nat → Int → Nat} (hR : RG A) (hT : Stat W P) (hG : GL W) {x2 x3 : Int} {a0 a1 b0 b1 : Nat} (rr : Rg x2 ∧ Rg x3) (h : (29 ≤ b1) ∧ (gK W b1 = 1) ∧ (NZ W b0) ∧ (29 ≤ a0) ∧ (gK W a0 = 1) ∧ (NZ W a1) ∧ Q none (Wm W (UA (UA A a0 1 x2) a0 2 x3) (UP (UP P b1 3 (b0 + 1)) a0 0 (a1 + 1)))) : wpE (xT 44) (xev xT d) Q (9, [(0, .ref (lo W a0)), (1, .ref (lo W a1)), (2, .int (iz x2)), (3, .int (iz x3))], [.ref (lo W b0), .ref (lo W b1)], Wm W A P) := by
  obtain ⟨g1, h⟩ := h
  obtain ⟨g2, h⟩ := h
  obtain ⟨g3, h⟩ := h
  refine id (α := 29 ≤ b1 → _) (fun _ => ?_) g1; refine w_putp hW (cc3 c44_9) g2 (ji := 3) rfl g3 ?_
  refine p_ald (cc3 c44_12) rfl ?_
  refine p_ald (cc3 c44_13) rfl ?_
  obtain ⟨g4, h⟩ := h
  obtain ⟨g5, h⟩ := h
  obtain ⟨g6, h⟩ := h
  refine id (α := 29 ≤ a0 → _) (fun _ => ?_) g4; refine w_putp hW (cc3 c44_14) g5 (ji := 0) rfl g6 ?_
  refine p_ald (cc3 c44_17) rfl ?_
  refine p_ild (cc3 c44_18) rfl ?_
  refine id (α := Rg x2 → _) (fun _ => ?_) rr.1; refine w_puti hW (cc3 c44_19) g5 (ji := 1) rfl ?_
  refine p_ald (cc3 c44_22) rfl ?_
  refine p_ild (cc3 c44_23) rfl ?_
  refine id (α := Rg x3 → _) (fun _ => ?_) rr.2; refine w_puti hW (cc3 c44_24) g5 (ji := 2) rfl ?_
  exact p_rv (cc3 c44_27) h
abbrev BtW (W : gW) (a : Nat) : gW := gN W (a + 1) 20 10
abbrev BtA (A : Nat → Int → Int) (a : Nat) (x y : Int) : Nat → Int → Int := UA (UA (ZA A (a + 1)) a 1 x) a 2 y
abbrev BtP (P : Nat → Int → Nat) (a w : Nat) : Nat → Int → Nat := UP (UP (ZP P (a + 1)) a 3 ((a + 1) + 1)) a 0 (w + 1)
theorem S44 {d : Nat} (hd : 1 ≤ d) {W : gW} (hW : HW W) {A : Nat → Int → Int} {P : Nat → Int → Nat} (hR : RG A) (hT : Stat W P) (hG : GL W) {x y : Int} {a w : Nat} (rr : Rg x ∧ Rg y) (ha : 29 ≤ a ∧ gK W a = 1 ∧ gK W (a + 1) = 0 ∧ NZ W w) : xev xT d 44 [.ref (lo W a), .ref (lo W w), .int (iz x), .int (iz y)] (Wm W A P) none (Wm (BtW W a) (BtA A a x y) (BtP P a w)) ∧ HW (BtW W a) ∧ RG (BtA A a x y) ∧ Stat (BtW W a) (BtP P a w) ∧ GL (BtW W a) := by
  obtain ⟨h9, h1, h2, h3⟩ := ha
  have W1 : HW (BtW W a) := gN_ok (k := 20) (n := 10) hW h2 (by decide)
  have G1 : GL (BtW W a) := hG.gN h2
  have T1 : Stat (BtW W a) (ZP P (a + 1)) := hT.gN hG h2 (by omega) (by decide)
  have nw : ¬ w = a + 1 := kd_ne h3.1 h2
  have kw : NZ (BtW W a) w := by rw [NZ, gN_K_n nw]; exact h3
  have T2 : Stat (BtW W a) (UP (ZP P (a + 1)) a 3 ((a + 1) + 1)) := Stat.up (v := (a + 1) + 1) T1 (po_d (j := 3) h9 (by decide)) (Or.inr (by rw [NZ, Nat.add_sub_cancel, gN_K_e]; decide))
  have T3 : Stat (BtW W a) (BtP P a w) := Stat.up (v := w + 1) T2 (po_d (j := 0) h9 (by decide)) (Or.inr (by rw [Nat.add_sub_cancel]; exact kw))
  have R1 : RG (ZA A (a + 1)) := rg_ZA hR
  have l1 : lo (BtW W a) a = lo W a := gN_lo_n (by omega)
  have l2 : lo (BtW W a) w = lo W w := gN_lo_n nw
  refine ⟨?_, W1, rg_UA (rg_UA R1 rr.1) rr.2, T3, G1⟩
  refine xev_i (D := 0) hd (Nat.le_of_ble_eq_true rfl) (fun d hd => V44_0 hd hW hR hT hG rr ?_)
  refine w_newa hW hT.1 (by decide) (cc3 c44_7) (a + 1) ⟨by decide, by decide⟩ h2 (fun V1 e1 _ => ?_)
  have e1' : V1 = BtW W a := e1
  subst e1'
  rw [← l1, ← l2]
  exact V44_9 hd W1 R1 T1 G1 rr ⟨h9, by rw [gN_K_n (by omega)]; exact h1, by rw [NZ, gN_K_e]; decide, h9, by rw [gN_K_n (by omega)]; exact h1, kw, rfl, rfl⟩
/-- it is well formed -/
theorem OBt.mk' {W : gW} {A : Nat → Int → Int} {P : Nat → Int → Nat} {x y : Int} {a w : Nat} (h1 : gK W a = 1) (h2 : gK W (a + 1) = 0) (h4 : A a 4 = 0) (hy : 100 ≤ y ∧ y ≤ 9999) : OBt (BtW W a) (BtP P a w) (BtA A a x y) a := by
  have e : ∀ j : Int, ZA A (a + 1) a j = A a j := fun j => by rw [ZA_n (by omega)]
  refine ⟨⟨by rw [gN_K_n (by omega)]; exact h1, gN_K_e⟩, ?_, gN_L_e, ?_, ?_, ?_⟩
  · show UP (UP (ZP P (a + 1)) a 3 ((a + 1) + 1)) a 0 (w + 1) a 3 = (a + 1) + 1
    unfold UP
    rw [if_neg (by omega), if_pos ⟨rfl, rfl⟩]
  · have q : BtA A a x y a 4 = 0 := by show UA (UA (ZA A (a + 1)) a 1 x) a 2 y a 4 = 0; rw [UA_j (by decide), UA_j (by decide), e, h4]
    rw [q]; decide
  · have q : BtA A a x y a 2 = y := UA_eq
    rw [q]; exact hy
  · show ¬ UP (UP (ZP P (a + 1)) a 3 ((a + 1) + 1)) a 0 (w + 1) a 0 = 0
    unfold UP
    rw [if_pos ⟨rfl, rfl⟩]; omega
