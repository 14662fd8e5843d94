theorem V34_0 {d : Nat} (hd : 2 ≤ d) {Q : Option Value → xM → Prop} {W : gW} (hW : HW W) {A : Nat → Int → Int} {P : Nat → Int → Nat} (hR : RG A) (hT : Stat W P) (hG : GL W) {a0 : Nat} (h : wpE (xT 34) (xev xT d) Q (13, [(0, .ref (lo W a0)), (1, .ref (lo W 6))], [.int (iz (A 6 1)), .ref (lo W 7), .ref (lo W a0)], Wm W A P)) : wpE (xT 34) (xev xT d) Q (0, [(0, .ref (lo W a0)), (1, .ref (lo W 6))], [], Wm W A P) := by
  refine p_ald (cc3 c34_0) rfl ?_
  refine p_obj (cc3 c34_1) (Nat.le_of_ble_eq_true rfl) ?_
  refine p_ald (cc3 c34_4) rfl ?_
  refine p_ald (cc3 c34_5) rfl ?_
  refine w_getp hW hT.1 (b := 7) (cc3 c34_6) (st_k hT 6 11 (by decide)) (ji := 0) rfl (st_p hT 6 0 7 (by decide)) ?_
  refine p_ald (cc3 c34_9) rfl ?_
  refine w_geti hW (v := A 6 1) (cc3 c34_10) (st_k hT 6 11 (by decide)) (ji := 1) rfl rfl ?_
  exact h
theorem V34_16 {d : Nat} (hd : 2 ≤ d) {Q : Option Value → xM → Prop} {W : gW} (hW : HW W) {A : Nat → Int → Int} {P : Nat → Int → Nat} (hR : RG A) (hT : Stat W P) (hG : GL W) {a0 b0 b1 : Nat} (h : (29 ≤ b1) ∧ (gK W b1 = 10) ∧ (NZ W b0) ∧ wpE (xT 34) (xev xT d) Q (24, [(0, .ref (lo W a0)), (1, .ref (lo W 6))], [.int (iz (A 6 1)), .ref (lo W a0)], Wm W A (UP P b1 0 (b0 + 1)))) : wpE (xT 34) (xev xT d) Q (16, [(0, .ref (lo W a0)), (1, .ref (lo W 6))], [.ref (lo W b0), .ref (lo W b1)], Wm W A P) := by
  obtain ⟨g1, h⟩ := h
  obtain ⟨g2, h⟩ := h
  obtain ⟨g3, h⟩ := h
  refine id (α := 29 ≤ b1 → _) (fun _ => ?_) g1; refine w_putp hW (cc3 c34_16) g2 (ji := 0) rfl g3 ?_
  refine p_ald (cc3 c34_19) rfl ?_
  refine p_ald (cc3 c34_20) rfl ?_
  refine w_geti hW (v := A 6 1) (cc3 c34_21) (st_k (Stat.up (v := b0 + 1) (c := b1) (j := 0) hT (po_d (j := 0) g1 (by decide)) (Or.inr g3)) 6 11 (by decide)) (ji := 1) rfl rfl ?_
  exact h
theorem V34_26 {d : Nat} (hd : 2 ≤ d) {Q : Option Value → xM → Prop} {W : gW} (hW : HW W) {A : Nat → Int → Int} {P : Nat → Int → Nat} (hR : RG A) (hT : Stat W P) (hG : GL W) {a0 b0 b1 : Nat} (h : (29 ≤ b1) ∧ (gK W b1 = 10) ∧ (NZ W b0) ∧ (gK W a0 = 10) ∧ Q none (Wm W (UA A a0 2 (A 6 2)) (UP P b1 1 (b0 + 1)))) : wpE (xT 34) (xev xT d) Q (26, [(0, .ref (lo W a0)), (1, .ref (lo W 6))], [.ref (lo W b0), .ref (lo W b1)], Wm W A P) := by
  obtain ⟨g1, h⟩ := h
  obtain ⟨g2, h⟩ := h
  obtain ⟨g3, h⟩ := h
  refine id (α := 29 ≤ b1 → _) (fun _ => ?_) g1; refine w_putp hW (cc3 c34_26) g2 (ji := 1) rfl g3 ?_
  refine p_ald (cc3 c34_29) rfl ?_
  refine p_ald (cc3 c34_30) rfl ?_
  refine w_geti hW (v := A 6 2) (cc3 c34_31) (st_k (Stat.up (v := b0 + 1) (c := b1) (j := 1) hT (po_d (j := 1) g1 (by decide)) (Or.inr g3)) 6 11 (by decide)) (ji := 2) rfl rfl ?_
  obtain ⟨g4, h⟩ := h
  refine id (α := Rg (A 6 2) → _) (fun _ => ?_) (hR 6 2); refine w_puti hW (cc3 c34_34) g4 (ji := 2) rfl ?_
  exact p_rv (cc3 c34_37) h
theorem S34 {d : Nat} (hd : 3 ≤ d) {W : gW} (hW : HW W) {A : Nat → Int → Int} {P : Nat → Int → Nat} (hR : RG A) (hT : Stat W P) (hG : GL W) {n : Nat} {a : Nat} (ha : 29 ≤ a ∧ gK W a = 10 ∧ gK W (a + 1) = 0 ∧ gK W (a + 2) = 0) (hn : A 6 1 = (n : Int) ∧ n ≤ 160) : ∃ A' : Nat → Int → Int, xev xT d 34 [.ref (lo W a), .ref (lo W 6)] (Wm W A P) none (Wm (LgW W a n) A' (LgP P a)) ∧ HW (LgW W a n) ∧ RG A' ∧ Stat (LgW W a n) (LgP P a) ∧ GL (LgW W a n) ∧ (∀ c, ¬ c = a → ¬ c = a + 1 → ¬ c = a + 2 → A' c = A c) ∧ (∀ j : Int, ¬ j = 2 → A' a j = A a j) ∧ A' a 2 = A 6 2 ∧ ∀ j : Int, 0 ≤ j → j < n → A' (a + 1) j = A 7 j := by
  obtain ⟨h9, hk, h1, h2⟩ := ha
  obtain ⟨hn, hn2⟩ := hn
  have k7 : gK W 7 = 20 := st_k hT 7 20 (by decide)
  have g7 : gL W 7 = 160 := (hT.2.1 7 (by decide)).2.1
  obtain ⟨A1, x1, R1, f1, c1⟩ := S35 (d := 2) (by decide) hW hR hT hG (x := (n : Int)) (a := 7) (c := a + 1) ⟨k7, h1, by omega⟩ ⟨by omega, by rw [g7]; omega, by rw [g7]; decide⟩
  rw [Int.toNat_natCast] at x1
  have W1 : HW (gN W (a + 1) 20 n) := gN_ok hW h1 (by decide)
  have T1 : Stat (gN W (a + 1) 20 n) (ZP P (a + 1)) := hT.gN hG h1 (by omega) (by decide)
  have G1 : GL (gN W (a + 1) 20 n) := hG.gN h1
  have h2' : gK (gN W (a + 1) 20 n) (a + 2) = 0 := by rw [gN_K_n (by omega)]; exact h2
  have T1' : Stat (gN W (a + 1) 20 n) (UP (ZP P (a + 1)) a 0 ((a + 1) + 1)) := Stat.up (v := (a + 1) + 1) T1 (po_d (j := 0) h9 (by decide)) (Or.inr (by rw [NZ, Nat.add_sub_cancel, gN_K_e]; decide))
  have T2 : Stat (LgW W a n) (ZP (UP (ZP P (a + 1)) a 0 ((a + 1) + 1)) (a + 2)) := T1'.gN G1 h2' (by omega) (by decide)
  have T2' : Stat (LgW W a n) (LgP P a) := Stat.up (v := (a + 2) + 1) T2 (po_d (j := 1) h9 (by decide)) (Or.inr (by rw [NZ, Nat.add_sub_cancel, gN_K_e]; decide))
  have W2 : HW (LgW W a n) := gN_ok W1 h2' (by decide)
  have G2 : GL (LgW W a n) := G1.gN h2'
  have n6a : ¬ 6 = a := by omega
  have l1 : lo (gN W (a + 1) 20 n) a = lo W a := gN_lo_n (by omega)
  have l16 : lo (gN W (a + 1) 20 n) 6 = lo W 6 := gN_lo_n (by omega)
  have l2 : lo (LgW W a n) a = lo (gN W (a + 1) 20 n) a := gN_lo_n (by omega)
  have l26 : lo (LgW W a n) 6 = lo (gN W (a + 1) 20 n) 6 := gN_lo_n (by omega)
  have e6 : A1 6 = A 6 := f1 6 (by omega)
  have ea : A1 a = A a := f1 a (by omega)
  have z6 : ZA A1 (a + 2) 6 = A 6 := by rw [ZA_n (by omega), e6]
  have R2 : RG (ZA A1 (a + 2)) := rg_ZA R1
  refine ⟨UA (ZA A1 (a + 2)) a 2 (A 6 2), ?_, W2, rg_UA R2 (hR 6 2), T2', G2, fun c q1 q2 q3 => ?_, fun j hj => ?_, UA_eq, fun j j0 jn => ?_⟩
  · refine xev_i (D := 2) hd (Nat.le_of_ble_eq_true rfl) (fun d hd => V34_0 hd hW hR hT hG ?_)
    rw [hn]
    refine p_callS (cc3 c34_13) (Nat.le_of_ble_eq_true rfl) rfl rfl (Nat.le_of_ble_eq_true rfl) (xev_le hd x1) ?_
    show wpE _ _ _ (16, [(0, .ref (lo W a)), (1, .ref (lo W 6))], [.ref (lo (gN W (a + 1) 20 n) (a + 1)), .ref (lo W a)], _)
    rw [← l1, ← l16]
    refine V34_16 hd W1 R1 T1 G1 ⟨h9, by rw [gN_K_n (by omega)]; exact hk, by rw [NZ, gN_K_e]; decide, ?_⟩
    rw [e6, hn]
    refine w_newa W1 T1'.1 (by decide) (cc3 c34_24) (a + 2) ⟨by omega, by omega⟩ h2' (fun V2 e2 _ => ?_)
    rw [Int.toNat_natCast] at e2
    have e2' : V2 = LgW W a n := e2
    subst e2'
    rw [← l2, ← l26]
    refine V34_26 hd W2 R2 T2 G2 ⟨h9, by rw [gN_K_n (by omega), gN_K_n (by omega)]; exact hk, by rw [NZ, gN_K_e]; decide, by rw [gN_K_n (by omega), gN_K_n (by omega)]; exact hk, rfl, ?_⟩
    rw [z6]
  · have q : UA (ZA A1 (a + 2)) a 2 (A 6 2) c = ZA A1 (a + 2) c := funext fun j => UA_c q1
    rw [q, ZA_n q3, f1 c q2]
  · rw [UA_j hj, ZA_n (by omega), ea]
  · rw [UA_c (by omega), ZA_n (by omega), c1 j j0 jn]
