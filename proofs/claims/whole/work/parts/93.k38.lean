theorem V46_0 {d : Nat} (hd : 0 ≤ d) {Q : Option Value → xM → Prop} {W : gW} (hW : HW W) {A : Nat → Int → Int} {P : Nat → Int → Nat} (hR : RG A) (hT : Stat W P) (hG : GL W) {x1 : Int} (rr : Rg x1) (h : (((x1 < 0) → Q (some (.null)) (Wm W A P)) ∧ (¬ (x1 < 0) → (((x1 < (A 0 10)) → (0 ≤ x1 ∧ x1 < 4) ∧ (¬ P 16 x1 = 0) ∧ Q (some (.ref (lo W (P 16 x1 - 1)))) (Wm W A P)) ∧ (¬ (x1 < (A 0 10)) → Q (some (.null)) (Wm W A P)))))) : wpE (xT 46) (xev xT d) Q (0, [(0, .ref (lo W 0)), (1, .int (iz x1))], [], Wm W A P) := by
  refine p_ild (cc3 c46_0) rfl ?_
  refine i_if (c' := x1 < 0) (cc3 c46_1) (c_lt0 rr) (fun c => ?_) (fun c => ?_)
  · have h := h.1 c
    refine p_lc (ls' := []) c46_12 rfl rfl ?_
    refine p_push (cct c46_12 rfl) ?_
    refine p_goto (cc3 c46_13) ?_
    exact p_raN (cct c46_22 rfl) h
  · have h := h.2 c
    refine p_ild (cc3 c46_4) rfl ?_
    refine p_ald (cc3 c46_5) rfl ?_
    refine w_geti hW (v := A 0 10) (cc3 c46_6) (st_k hT 0 12 (by decide)) (ji := 10) rfl rfl ?_
    refine i_icmp (c' := x1 < (A 0 10)) (cc3 c46_9) (iz_lt rr (hR 0 10)) (fun c => ?_) (fun c => ?_)
    · have h := h.1 c
      refine p_ald (cc3 c46_16) rfl ?_
      refine w_getp hW hT.1 (b := 16) (cc3 c46_17) (st_k hT 0 12 (by decide)) (ji := 5) rfl (st_p hT 0 5 16 (by decide)) ?_
      refine p_ild (cc3 c46_20) rfl ?_
      obtain ⟨g1, h⟩ := h
      obtain ⟨g2, h⟩ := h
      refine w_aldp hW hT.1 (cc3 c46_21) (st_k hT 16 23 (by decide)) (st_i hT 16 4 (by decide) g1) g2 ?_
      refine p_lc (ls' := []) c46_22 rfl rfl ?_
      exact p_ra (cct c46_22 rfl) h
    · have h := h.2 c
      refine p_lc (ls' := []) c46_12 rfl rfl ?_
      refine p_push (cct c46_12 rfl) ?_
      refine p_goto (cc3 c46_13) ?_
      exact p_raN (cct c46_22 rfl) h
theorem S46 {d : Nat} (hd : 1 ≤ d) {W : gW} (hW : HW W) {A : Nat → Int → Int} {P : Nat → Int → Nat} (hR : RG A) (hT : Stat W P) (hG : GL W) {x1 : Int} (rr : Rg x1) (hp : (CtO P A)) : xev xT d 46 [.ref (lo W 0), .int (iz x1)] (Wm W A P) (some (if ¬ (0 ≤ x1 ∧ x1 < A 0 10) then .null else .ref (lo W (qS x1)))) (Wm W A P) := by
  refine xev_i (D := 0) hd (Nat.le_of_ble_eq_true rfl) (fun d hd => V46_0 hd hW hR hT hG rr ?_)

  obtain ⟨⟨q1, q2, q3⟩, h1, h2, h3, h4⟩ := hp
  refine ⟨fun c => ⟨by rw [if_pos (by omega)], rfl⟩, fun c => ⟨fun c2 => ⟨⟨by omega, by omega⟩, by rw [h1 x1 (by omega) c2]; omega, ?_, rfl⟩, fun c2 => ⟨by rw [if_pos (by omega)], rfl⟩⟩⟩
  rw [if_neg (by omega), h1 x1 (by omega) c2]; rfl
theorem V54_0 {d : Nat} (hd : 0 ≤ d) {Q : Option Value → xM → Prop} {W : gW} (hW : HW W) {A : Nat → Int → Int} {P : Nat → Int → Nat} (hR : RG A) (hT : Stat W P) (hG : GL W) {x1 : Int} (rr : Rg x1) (h : (((x1 < 0) → Q (some (.null)) (Wm W A P)) ∧ (¬ (x1 < 0) → (((x1 < (A 0 11)) → (0 ≤ x1 ∧ x1 < 4) ∧ (¬ P 17 x1 = 0) ∧ Q (some (.ref (lo W (P 17 x1 - 1)))) (Wm W A P)) ∧ (¬ (x1 < (A 0 11)) → Q (some (.null)) (Wm W A P)))))) : wpE (xT 54) (xev xT d) Q (0, [(0, .ref (lo W 0)), (1, .int (iz x1))], [], Wm W A P) := by
  refine p_ild (cc3 c54_0) rfl ?_
  refine i_if (c' := x1 < 0) (cc3 c54_1) (c_lt0 rr) (fun c => ?_) (fun c => ?_)
  · have h := h.1 c
    refine p_lc (ls' := []) c54_12 rfl rfl ?_
    refine p_push (cct c54_12 rfl) ?_
    refine p_goto (cc3 c54_13) ?_
    exact p_raN (cct c54_22 rfl) h
  · have h := h.2 c
    refine p_ild (cc3 c54_4) rfl ?_
    refine p_ald (cc3 c54_5) rfl ?_
    refine w_geti hW (v := A 0 11) (cc3 c54_6) (st_k hT 0 12 (by decide)) (ji := 11) rfl rfl ?_
    refine i_icmp (c' := x1 < (A 0 11)) (cc3 c54_9) (iz_lt rr (hR 0 11)) (fun c => ?_) (fun c => ?_)
    · have h := h.1 c
      refine p_ald (cc3 c54_16) rfl ?_
      refine w_getp hW hT.1 (b := 17) (cc3 c54_17) (st_k hT 0 12 (by decide)) (ji := 6) rfl (st_p hT 0 6 17 (by decide)) ?_
      refine p_ild (cc3 c54_20) rfl ?_
      obtain ⟨g1, h⟩ := h
      obtain ⟨g2, h⟩ := h
      refine w_aldp hW hT.1 (cc3 c54_21) (st_k hT 17 24 (by decide)) (st_i hT 17 4 (by decide) g1) g2 ?_
      refine p_lc (ls' := []) c54_22 rfl rfl ?_
      exact p_ra (cct c54_22 rfl) h
    · have h := h.2 c
      refine p_lc (ls' := []) c54_12 rfl rfl ?_
      refine p_push (cct c54_12 rfl) ?_
      refine p_goto (cc3 c54_13) ?_
      exact p_raN (cct c54_22 rfl) h
theorem S54 {d : Nat} (hd : 1 ≤ d) {W : gW} (hW : HW W) {A : Nat → Int → Int} {P : Nat → Int → Nat} (hR : RG A) (hT : Stat W P) (hG : GL W) {x1 : Int} (rr : Rg x1) (hp : (CtO P A)) : xev xT d 54 [.ref (lo W 0), .int (iz x1)] (Wm W A P) (some (if ¬ (0 ≤ x1 ∧ x1 < A 0 11) then .null else .ref (lo W (qB x1)))) (Wm W A P) := by
  refine xev_i (D := 0) hd (Nat.le_of_ble_eq_true rfl) (fun d hd => V54_0 hd hW hR hT hG rr ?_)

  obtain ⟨⟨q1, q2, q3⟩, h1, h2, h3, h4⟩ := hp
  refine ⟨fun c => ⟨by rw [if_pos (by omega)], rfl⟩, fun c => ⟨fun c2 => ⟨⟨by omega, by omega⟩, by rw [h2 x1 (by omega) c2]; omega, ?_, rfl⟩, fun c2 => ⟨by rw [if_pos (by omega)], rfl⟩⟩⟩
  rw [if_neg (by omega), h2 x1 (by omega) c2]; rfl
theorem V66_0 {d : Nat} (hd : 0 ≤ d) {Q : Option Value → xM → Prop} {W : gW} (hW : HW W) {A : Nat → Int → Int} {P : Nat → Int → Nat} (hR : RG A) (hT : Stat W P) (hG : GL W) {x1 : Int} (rr : Rg x1) (h : (((x1 < 0) → Q (some (.null)) (Wm W A P)) ∧ (¬ (x1 < 0) → (((x1 < (A 0 12)) → (0 ≤ x1 ∧ x1 < 8) ∧ (¬ P 18 x1 = 0) ∧ Q (some (.ref (lo W (P 18 x1 - 1)))) (Wm W A P)) ∧ (¬ (x1 < (A 0 12)) → Q (some (.null)) (Wm W A P)))))) : wpE (xT 66) (xev xT d) Q (0, [(0, .ref (lo W 0)), (1, .int (iz x1))], [], Wm W A P) := by
  refine p_ild (cc3 c66_0) rfl ?_
  refine i_if (c' := x1 < 0) (cc3 c66_1) (c_lt0 rr) (fun c => ?_) (fun c => ?_)
  · have h := h.1 c
    refine p_lc (ls' := []) c66_12 rfl rfl ?_
    refine p_push (cct c66_12 rfl) ?_
    refine p_goto (cc3 c66_13) ?_
    exact p_raN (cct c66_22 rfl) h
  · have h := h.2 c
    refine p_ild (cc3 c66_4) rfl ?_
    refine p_ald (cc3 c66_5) rfl ?_
    refine w_geti hW (v := A 0 12) (cc3 c66_6) (st_k hT 0 12 (by decide)) (ji := 12) rfl rfl ?_
    refine i_icmp (c' := x1 < (A 0 12)) (cc3 c66_9) (iz_lt rr (hR 0 12)) (fun c => ?_) (fun c => ?_)
    · have h := h.1 c
      refine p_ald (cc3 c66_16) rfl ?_
      refine w_getp hW hT.1 (b := 18) (cc3 c66_17) (st_k hT 0 12 (by decide)) (ji := 7) rfl (st_p hT 0 7 18 (by decide)) ?_
      refine p_ild (cc3 c66_20) rfl ?_
      obtain ⟨g1, h⟩ := h
      obtain ⟨g2, h⟩ := h
      refine w_aldp hW hT.1 (cc3 c66_21) (st_k hT 18 25 (by decide)) (st_i hT 18 8 (by decide) g1) g2 ?_
      refine p_lc (ls' := []) c66_22 rfl rfl ?_
      exact p_ra (cct c66_22 rfl) h
    · have h := h.2 c
      refine p_lc (ls' := []) c66_12 rfl rfl ?_
      refine p_push (cct c66_12 rfl) ?_
      refine p_goto (cc3 c66_13) ?_
      exact p_raN (cct c66_22 rfl) h
theorem S66 {d : Nat} (hd : 1 ≤ d) {W : gW} (hW : HW W) {A : Nat → Int → Int} {P : Nat → Int → Nat} (hR : RG A) (hT : Stat W P) (hG : GL W) {x1 : Int} (rr : Rg x1) (hp : (CtO P A)) : xev xT d 66 [.ref (lo W 0), .int (iz x1)] (Wm W A P) (some (if ¬ (0 ≤ x1 ∧ x1 < A 0 12) then .null else .ref (lo W (qK x1)))) (Wm W A P) := by
  refine xev_i (D := 0) hd (Nat.le_of_ble_eq_true rfl) (fun d hd => V66_0 hd hW hR hT hG rr ?_)

  obtain ⟨⟨q1, q2, q3⟩, h1, h2, h3, h4⟩ := hp
  refine ⟨fun c => ⟨by rw [if_pos (by omega)], rfl⟩, fun c => ⟨fun c2 => ⟨⟨by omega, by omega⟩, by rw [h3 x1 (by omega) c2]; omega, ?_, rfl⟩, fun c2 => ⟨by rw [if_pos (by omega)], rfl⟩⟩⟩
  rw [if_neg (by omega), h3 x1 (by omega) c2]; rfl
theorem V119_0 {d : Nat} (hd : 0 ≤ d) {Q : Option Value → xM → Prop} {W : gW} (hW : HW W) {A : Nat → Int → Int} {P : Nat → Int → Nat} (hR : RG A) (hT : Stat W P) (hG : GL W) {x1 : Int} (rr : Rg x1) (h : (((x1 < 0) → Q (some (.null)) (Wm W A P)) ∧ (¬ (x1 < 0) → (((x1 < 4) → (0 ≤ x1 ∧ x1 < 4) ∧ (¬ P 20 x1 = 0) ∧ Q (some (.ref (lo W (P 20 x1 - 1)))) (Wm W A P)) ∧ (¬ (x1 < 4) → Q (some (.null)) (Wm W A P)))))) : wpE (xT 119) (xev xT d) Q (0, [(0, .ref (lo W 0)), (1, .int (iz x1))], [], Wm W A P) := by
  refine p_ild (cc3 c119_0) rfl ?_
  refine i_if (c' := x1 < 0) (cc3 c119_1) (c_lt0 rr) (fun c => ?_) (fun c => ?_)
  · have h := h.1 c
    refine p_lc (ls' := []) c119_9 rfl rfl ?_
    refine p_push (cct c119_9 rfl) ?_
    refine p_goto (cc3 c119_10) ?_
    exact p_raN (cct c119_19 rfl) h
  · have h := h.2 c
    refine p_ild (cc3 c119_4) rfl ?_
    refine i_push (n := 4) (cc3 c119_5) zl_4 ?_
    refine i_icmp (c' := x1 < 4) (cc3 c119_6) (iz_lt rr (by decide : Rg (4 : Int))) (fun c => ?_) (fun c => ?_)
    · have h := h.1 c
      refine p_ald (cc3 c119_13) rfl ?_
      refine w_getp hW hT.1 (b := 20) (cc3 c119_14) (st_k hT 0 12 (by decide)) (ji := 9) rfl (st_p hT 0 9 20 (by decide)) ?_
      refine p_ild (cc3 c119_17) rfl ?_
      obtain ⟨g1, h⟩ := h
      obtain ⟨g2, h⟩ := h
      refine w_aldp hW hT.1 (cc3 c119_18) (st_k hT 20 27 (by decide)) (st_i hT 20 4 (by decide) g1) g2 ?_
      refine p_lc (ls' := []) c119_19 rfl rfl ?_
      exact p_ra (cct c119_19 rfl) h
    · have h := h.2 c
      refine p_lc (ls' := []) c119_9 rfl rfl ?_
      refine p_push (cct c119_9 rfl) ?_
      refine p_goto (cc3 c119_10) ?_
      exact p_raN (cct c119_19 rfl) h
theorem S119 {d : Nat} (hd : 1 ≤ d) {W : gW} (hW : HW W) {A : Nat → Int → Int} {P : Nat → Int → Nat} (hR : RG A) (hT : Stat W P) (hG : GL W) {x1 : Int} (rr : Rg x1) (hp : (CtO P A)) : xev xT d 119 [.ref (lo W 0), .int (iz x1)] (Wm W A P) (some (if ¬ (0 ≤ x1 ∧ x1 < 4) then .null else .ref (lo W (qH x1)))) (Wm W A P) := by
  refine xev_i (D := 0) hd (Nat.le_of_ble_eq_true rfl) (fun d hd => V119_0 hd hW hR hT hG rr ?_)

  obtain ⟨⟨q1, q2, q3⟩, h1, h2, h3, h4⟩ := hp
  refine ⟨fun c => ⟨by rw [if_pos (by omega)], rfl⟩, fun c => ⟨fun c2 => ⟨⟨by omega, by omega⟩, by rw [h4 x1 (by omega) c2]; omega, ?_, rfl⟩, fun c2 => ⟨by rw [if_pos (by omega)], rfl⟩⟩⟩
  rw [if_neg (by omega), h4 x1 (by omega) c2]; rfl
theorem V45_0 {d : Nat} (hd : 1 ≤ d) {Q : Option Value → xM → Prop} {W : gW} (hW : HW W) {A : Nat → Int → Int} {P : Nat → Int → Nat} (hR : RG A) (hT : Stat W P) (hG : GL W) {x1 x2 : Int} (rr : Rg x1 ∧ Rg x2) (h : (CtO P A) ∧ (((¬ (0 ≤ x1 ∧ x1 < A 0 10)) → Q (some (.int (iz (-2)))) (Wm W A P)) ∧ (¬ (¬ (0 ≤ x1 ∧ x1 < A 0 10)) → (((x2 = 0) → (gK W (qS x1) = 6) ∧ Q (some (.int (iz (A (qS x1) 1)))) (Wm W A P)) ∧ (¬ (x2 = 0) → ((x2 = 1) → (gK W (qS x1) = 6) ∧ Q (some (.int (iz (A (qS x1) 0)))) (Wm W A P)) ∧ (¬ (x2 = 1) → ((x2 = 2) → (gK W (qS x1) = 6) ∧ ((((A (qS x1) 2) = 0) → Q (some (.int (iz 0))) (Wm W A P)) ∧ (¬ ((A (qS x1) 2) = 0) → Q (some (.int (iz 1))) (Wm W A P)))) ∧ (¬ (x2 = 2) → Q (some (.int (iz (-2)))) (Wm W A P)))))))) : wpE (xT 45) (xev xT d) Q (0, [(0, .ref (lo W 0)), (1, .int (iz x1)), (2, .int (iz x2))], [], Wm W A P) := by
  refine p_ald (cc3 c45_0) rfl ?_
  refine p_ild (cc3 c45_1) rfl ?_
  obtain ⟨g1, h⟩ := h
  have he := S46 (Nat.le_trans (by decide) hd) hW hR hT hG rr.1 g1
  refine nul_c (c := ¬ (0 ≤ x1 ∧ x1 < A 0 10)) he (fun c he => ?_) (fun c he => ?_) <;> refine p_callV (cc3 c45_2) (Nat.le_of_ble_eq_true rfl) rfl rfl (Nat.le_of_ble_eq_true rfl) (wk_kd hW (by decide) (st_k hT 0 12 (by decide))) he ?_
  · have h := h.1 c
    refine p_astN (ls' := [(3, .null), (0, .ref (lo W 0)), (1, .int (iz x1)), (2, .int (iz x2))]) (cc3 c45_5) (by decide) rfl ?_
    refine p_aldN (cc3 c45_6) rfl ?_
    refine p_ifnN (cc3 c45_7) ?_
    refine i_push (n := (-2)) (cc3 c45_10) zl_m2 ?_
    exact p_ri (cc3 c45_12) trivial h
  · have h := h.2 c
    refine p_ast (ls' := [(3, .ref (lo W (qS x1))), (0, .ref (lo W 0)), (1, .int (iz x1)), (2, .int (iz x2))]) (cc3 c45_5) (by decide) rfl ?_
    refine p_ald (cc3 c45_6) rfl ?_
    refine p_ifnR (cc3 c45_7) ?_
    refine p_ild (cc3 c45_13) rfl ?_
    refine (fun _ : Rg x2 => p_sw (cc3 c45_14) ?_) rr.2
    refine sw_c (n := 0) rr.2 zl_0 (by decide) (fun c => ?_) (fun c => ?_)
    · have h := h.1 c
      refine p_ald (cc3 c45_40) rfl ?_
      obtain ⟨g2, h⟩ := h
      refine w_geti hW (v := A (qS x1) 1) (cc3 c45_41) g2 (ji := 1) rfl rfl ?_
      exact p_ri (cc3 c45_44) trivial h
    · have h := h.2 c
      refine sw_c (n := 1) rr.2 zl_1 (by decide) (fun c => ?_) (fun c => ?_)
      · have h := h.1 c
        refine p_ald (cc3 c45_45) rfl ?_
        obtain ⟨g2, h⟩ := h
        refine w_geti hW (v := A (qS x1) 0) (cc3 c45_46) g2 (ji := 0) rfl rfl ?_
        exact p_ri (cc3 c45_49) trivial h
      · have h := h.2 c
        refine sw_c (n := 2) rr.2 zl_2 (by decide) (fun c => ?_) (fun c => ?_)
        · have h := h.1 c
          refine p_ald (cc3 c45_50) rfl ?_
          obtain ⟨g2, h⟩ := h
          refine w_geti hW (v := A (qS x1) 2) (cc3 c45_51) g2 (ji := 2) rfl rfl ?_
          refine i_if (c' := (A (qS x1) 2) = 0) (cc3 c45_54) (c_eq0 (hR (qS x1) 2)) (fun c => ?_) (fun c => ?_)
          · have h := h.1 c
            refine i_push (n := 0) (cc3 c45_61) zl_0 ?_
            refine p_lc (ls' := []) c45_62 rfl rfl ?_
            exact p_ri (cct c45_62 rfl) trivial h
          · have h := h.2 c
            refine i_push (n := 1) (cc3 c45_57) zl_1 ?_
            refine p_goto (cc3 c45_58) ?_
            refine p_lc (ls' := []) c45_62 rfl rfl ?_
            exact p_ri (cct c45_62 rfl) trivial h
        · have h := h.2 c
          refine sw_d ?_
          refine i_push (n := (-2)) (cc3 c45_63) zl_m2 ?_
          exact p_ri (cc3 c45_65) trivial h
theorem S45 {d : Nat} (hd : 2 ≤ d) {W : gW} (hW : HW W) {A : Nat → Int → Int} {P : Nat → Int → Nat} (hR : RG A) (hT : Stat W P) (hG : GL W) {x1 x2 : Int} (rr : Rg x1 ∧ Rg x2) (hp : (RelA W P A)) : xev xT d 45 [.ref (lo W 0), .int (iz x1), .int (iz x2)] (Wm W A P) (some (.int (iz (m_settTold (mo A) x1 x2)))) (Wm W A P) := by
  refine xev_i (D := 1) hd (Nat.le_of_ble_eq_true rfl) (fun d hd => V45_0 hd hW hR hT hG rr ?_)

  have hct := hp.cto
  obtain ⟨hn1, hn2, hn3, hn4, hn5, hn6⟩ := hp.cn
  have hcs := hct.1
  by_cases q : 0 ≤ x1 ∧ x1 < A 0 10
  · obtain ⟨hO, ⟨e0, e1, e2⟩, hE, hC⟩ := hp.se q.1 (by omega)
    have k6 := hO.1.1
    have hb := hO.2.2.1
    repeat' (first | assumption | (refine And.intro ?_ ?_) | intro _)
    all_goals (first | assumption | rfl | omega | exact rg_bI | (refine congrArg (fun z => some (Value.int (iz z))) ?_; (try unfold m_settTold); (repeat' split) <;> first | rfl | omega | (exfalso; omega)))
  · repeat' (first | assumption | (refine And.intro ?_ ?_) | intro _)
    all_goals (first | assumption | rfl | omega | exact rg_bI | (refine congrArg (fun z => some (Value.int (iz z))) ?_; (try unfold m_settTold); (repeat' split) <;> first | rfl | omega | (exfalso; omega)))
theorem col_k {W : gW} {P : Nat → Int → Nat} {A M : Nat → Int → Int} {s x : Int} (h : RSe W P A M s) (hx : 0 ≤ x) : k_col A (qS s) x = m_col M s x := by
  obtain ⟨hO, ⟨e0, e1, e2⟩, hE, hC⟩ := h
  have hb := hO.2.2.1.2.1
  have p1 : 0 < M 3 s := by omega
  unfold k_col
  rw [if_neg (by omega), e1, hC (x % M 3 s) (Int.emod_nonneg _ (by omega)) (Int.emod_lt_of_pos _ p1)]
  unfold m_col
  rw [tmod_pos hx, tmod_pos (Int.emod_nonneg _ (by omega)), Int.emod_emod]
theorem V47_0 {d : Nat} (hd : 1 ≤ d) {Q : Option Value → xM → Prop} {W : gW} (hW : HW W) {A : Nat → Int → Int} {P : Nat → Int → Nat} (hR : RG A) (hT : Stat W P) (hG : GL W) {x1 x2 x3 : Int} (rr : Rg x1 ∧ Rg x2 ∧ Rg x3) (h : (CtO P A) ∧ (((¬ (0 ≤ x1 ∧ x1 < A 0 10)) → Q (some (.int (iz (-2)))) (Wm W A P)) ∧ (¬ (¬ (0 ≤ x1 ∧ x1 < A 0 10)) → (gK W (qS x1) = 6) ∧ ((¬ (0 ≤ x2 ∧ x2 < A (qS x1) 0) → Q (some (.int (iz (-2)))) (Wm W A P)) ∧ ((0 ≤ x2 ∧ x2 < A (qS x1) 0) → (((x3 = 0) → (P (qS x1) 3 = ((qS x1) + 1) + 1) ∧ (gK W ((qS x1) + 1) = 20) ∧ (0 ≤ x2 ∧ x2 < gL W ((qS x1) + 1) ∧ x2 ≤ 2147483647) ∧ Q (some (.int (iz (A ((qS x1) + 1) x2)))) (Wm W A P)) ∧ (¬ (x3 = 0) → ((x3 = 1) → (P (qS x1) 4 = ((qS x1) + 2) + 1) ∧ (gK W ((qS x1) + 2) = 20) ∧ (0 ≤ x2 ∧ x2 < gL W ((qS x1) + 2) ∧ x2 ≤ 2147483647) ∧ Q (some (.int (iz (A ((qS x1) + 2) x2)))) (Wm W A P)) ∧ (¬ (x3 = 1) → ((x3 = 2) → (P (qS x1) 5 = ((qS x1) + 3) + 1) ∧ (gK W ((qS x1) + 3) = 20) ∧ (0 ≤ x2 ∧ x2 < gL W ((qS x1) + 3) ∧ x2 ≤ 2147483647) ∧ Q (some (.int (iz (A ((qS x1) + 3) x2)))) (Wm W A P)) ∧ (¬ (x3 = 2) → Q (some (.int (iz (-2)))) (Wm W A P)))))))))) : wpE (xT 47) (xev xT d) Q (0, [(0, .ref (lo W 0)), (1, .int (iz x1)), (2, .int (iz x2)), (3, .int (iz x3))], [], Wm W A P) := by
  refine p_ald (cc3 c47_0) rfl ?_
  refine p_ild (cc3 c47_1) rfl ?_
  obtain ⟨g1, h⟩ := h
  have he := S46 (Nat.le_trans (by decide) hd) hW hR hT hG rr.1 g1
  refine nul_c (c := ¬ (0 ≤ x1 ∧ x1 < A 0 10)) he (fun c he => ?_) (fun c he => ?_) <;> refine p_callV (cc3 c47_2) (Nat.le_of_ble_eq_true rfl) rfl rfl (Nat.le_of_ble_eq_true rfl) (wk_kd hW (by decide) (st_k hT 0 12 (by decide))) he ?_
  · have h := h.1 c
    refine p_astN (ls' := [(4, .null), (0, .ref (lo W 0)), (1, .int (iz x1)), (2, .int (iz x2)), (3, .int (iz x3))]) (cc3 c47_5) (by decide) rfl ?_
    refine p_aldN (cc3 c47_7) rfl ?_
    refine p_ifnN (cc3 c47_9) ?_
    refine p_lc (ls' := []) c47_21 rfl rfl ?_
    refine i_push (n := (-2)) (cct c47_21 rfl) zl_m2 ?_
    exact p_ri (cc3 c47_23) trivial h
  · have h := h.2 c
    refine p_ast (ls' := [(4, .ref (lo W (qS x1))), (0, .ref (lo W 0)), (1, .int (iz x1)), (2, .int (iz x2)), (3, .int (iz x3))]) (cc3 c47_5) (by decide) rfl ?_
    refine p_ald (cc3 c47_7) rfl ?_
    refine p_ifnR (cc3 c47_9) ?_
    refine p_ald (cc3 c47_12) rfl ?_
    refine p_ild (cc3 c47_14) rfl ?_
    obtain ⟨g2, h⟩ := h
    refine p_callV (cc3 c47_15) (Nat.le_of_ble_eq_true rfl) rfl rfl (Nat.le_of_ble_eq_true rfl) (wk_kd hW (by decide) g2) (S48 (Nat.le_trans (by decide) hd) hW hR hT hG rr.2.1 g2) ?_
    refine i_ifB (cc3 c47_18) (fun c => ?_) (fun c => ?_)
    · have h := h.1 c
      refine p_lc (ls' := []) c47_21 rfl rfl ?_
      refine i_push (n := (-2)) (cct c47_21 rfl) zl_m2 ?_
      exact p_ri (cc3 c47_23) trivial h
    · have h := h.2 c
      refine p_ild (cc3 c47_24) rfl ?_
      refine (fun _ : Rg x3 => p_sw (cc3 c47_25) ?_) rr.2.2
      refine sw_c (n := 0) rr.2.2 zl_0 (by decide) (fun c => ?_) (fun c => ?_)
      · have h := h.1 c
        refine p_ald (cc3 c47_52) rfl ?_
        obtain ⟨g3, h⟩ := h
        refine w_getp hW hT.1 (b := (qS x1) + 1) (cc3 c47_54) g2 (ji := 3) rfl g3 ?_
        refine p_ild (cc3 c47_57) rfl ?_
        obtain ⟨g4, h⟩ := h
        obtain ⟨g5, h⟩ := h
        refine w_aldi hW (v := A ((qS x1) + 1) x2) (cc3 c47_58) g4 g5 rfl ?_
        exact p_ri (cc3 c47_59) trivial h
      · have h := h.2 c
        refine sw_c (n := 1) rr.2.2 zl_1 (by decide) (fun c => ?_) (fun c => ?_)
        · have h := h.1 c
          refine p_ald (cc3 c47_60) rfl ?_
          obtain ⟨g3, h⟩ := h
          refine w_getp hW hT.1 (b := (qS x1) + 2) (cc3 c47_62) g2 (ji := 4) rfl g3 ?_
          refine p_ild (cc3 c47_65) rfl ?_
          obtain ⟨g4, h⟩ := h
          obtain ⟨g5, h⟩ := h
          refine w_aldi hW (v := A ((qS x1) + 2) x2) (cc3 c47_66) g4 g5 rfl ?_
          exact p_ri (cc3 c47_67) trivial h
        · have h := h.2 c
          refine sw_c (n := 2) rr.2.2 zl_2 (by decide) (fun c => ?_) (fun c => ?_)
          · have h := h.1 c
            refine p_ald (cc3 c47_68) rfl ?_
            obtain ⟨g3, h⟩ := h
            refine w_getp hW hT.1 (b := (qS x1) + 3) (cc3 c47_70) g2 (ji := 5) rfl g3 ?_
            refine p_ild (cc3 c47_73) rfl ?_
            obtain ⟨g4, h⟩ := h
            obtain ⟨g5, h⟩ := h
            refine w_aldi hW (v := A ((qS x1) + 3) x2) (cc3 c47_74) g4 g5 rfl ?_
            exact p_ri (cc3 c47_75) trivial h
          · have h := h.2 c
            refine sw_d ?_
            refine i_push (n := (-2)) (cc3 c47_76) zl_m2 ?_
            exact p_ri (cc3 c47_78) trivial h
theorem S47 {d : Nat} (hd : 2 ≤ d) {W : gW} (hW : HW W) {A : Nat → Int → Int} {P : Nat → Int → Nat} (hR : RG A) (hT : Stat W P) (hG : GL W) {x1 x2 x3 : Int} (rr : Rg x1 ∧ Rg x2 ∧ Rg x3) (hp : (RelA W P A)) : xev xT d 47 [.ref (lo W 0), .int (iz x1), .int (iz x2), .int (iz x3)] (Wm W A P) (some (.int (iz (m_stripe (mo A) x1 x2 x3)))) (Wm W A P) := by
  refine xev_i (D := 1) hd (Nat.le_of_ble_eq_true rfl) (fun d hd => V47_0 hd hW hR hT hG rr ?_)

  have hct := hp.cto
  obtain ⟨hn1, hn2, hn3, hn4, hn5, hn6⟩ := hp.cn
  have hcs := hct.1
  by_cases q : 0 ≤ x1 ∧ x1 < A 0 10
  · obtain ⟨hO, ⟨e0, e1, e2⟩, hE, hC⟩ := hp.se q.1 (by omega)
    have k6 := hO.1.1
    have hb := hO.2.2.1
    obtain ⟨g1, g2, g3, g4⟩ := hO.2.2.2.1
    obtain ⟨-, kk1, kk2, kk3, kk4⟩ := hO.1
    have kp := hO.2.1
    have kp1 := kp.1
    have kp2 := kp.2.1
    have kp3 := kp.2.2.1
    refine ⟨hct, fun z => absurd q z, fun _ => ⟨k6, fun z => ?_, fun z => ?_⟩⟩
    · have e : m_stripe (mo A) x1 x2 x3 = -2 := by unfold m_stripe; rw [if_neg (by omega)]
      rw [e]; exact ⟨rfl, rfl⟩
    · obtain ⟨f1, f2, f3⟩ := hE x2 z.1 (by omega)
      rw [f1, f2, f3]
      repeat' (first | assumption | (refine And.intro ?_ ?_) | intro _)
      all_goals (first | assumption | rfl | omega | exact rg_bI | (refine congrArg (fun z => some (Value.int (iz z))) ?_; (try unfold m_stripe); (repeat' split) <;> first | rfl | omega | (exfalso; omega)))
  · repeat' (first | assumption | (refine And.intro ?_ ?_) | intro _)
    all_goals (first | assumption | rfl | omega | exact rg_bI | (refine congrArg (fun z => some (Value.int (iz z))) ?_; (try unfold m_stripe); (repeat' split) <;> first | rfl | omega | (exfalso; omega)))
theorem V49_0 {d : Nat} (hd : 1 ≤ d) {Q : Option Value → xM → Prop} {W : gW} (hW : HW W) {A : Nat → Int → Int} {P : Nat → Int → Nat} (hR : RG A) (hT : Stat W P) (hG : GL W) {x1 x2 : Int} (rr : Rg x1 ∧ Rg x2) (h : (CtO P A) ∧ (((¬ (0 ≤ x1 ∧ x1 < A 0 10)) → Q (some (.int (iz (-2)))) (Wm W A P)) ∧ (¬ (¬ (0 ≤ x1 ∧ x1 < A 0 10)) → (((0 ≤ x2) → (OSt W P A (qS x1)) ∧ (gK W (qS x1) = 6) ∧ Q (some (.int (iz (k_col A (qS x1) x2)))) (Wm W A P)) ∧ (¬ (0 ≤ x2) → Q (some (.int (iz (-2)))) (Wm W A P)))))) : wpE (xT 49) (xev xT d) Q (0, [(0, .ref (lo W 0)), (1, .int (iz x1)), (2, .int (iz x2))], [], Wm W A P) := by
  refine p_ald (cc3 c49_0) rfl ?_
  refine p_ild (cc3 c49_1) rfl ?_
  obtain ⟨g1, h⟩ := h
  have he := S46 (Nat.le_trans (by decide) hd) hW hR hT hG rr.1 g1
  refine nul_c (c := ¬ (0 ≤ x1 ∧ x1 < A 0 10)) he (fun c he => ?_) (fun c he => ?_) <;> refine p_callV (cc3 c49_2) (Nat.le_of_ble_eq_true rfl) rfl rfl (Nat.le_of_ble_eq_true rfl) (wk_kd hW (by decide) (st_k hT 0 12 (by decide))) he ?_
  · have h := h.1 c
    refine p_astN (ls' := [(3, .null), (0, .ref (lo W 0)), (1, .int (iz x1)), (2, .int (iz x2))]) (cc3 c49_5) (by decide) rfl ?_
    refine p_aldN (cc3 c49_6) rfl ?_
    refine p_ifnN (cc3 c49_7) ?_
    refine p_lc (ls' := []) c49_14 rfl rfl ?_
    refine i_push (n := (-2)) (cct c49_14 rfl) zl_m2 ?_
    refine p_goto (cc3 c49_16) ?_
    exact p_ri (cct c49_24 rfl) trivial h
  · have h := h.2 c
    refine p_ast (ls' := [(3, .ref (lo W (qS x1))), (0, .ref (lo W 0)), (1, .int (iz x1)), (2, .int (iz x2))]) (cc3 c49_5) (by decide) rfl ?_
    refine p_ald (cc3 c49_6) rfl ?_
    refine p_ifnR (cc3 c49_7) ?_
    refine p_ild (cc3 c49_10) rfl ?_
    refine i_if (c' := 0 ≤ x2) (cc3 c49_11) (c_ge0 rr.2) (fun c => ?_) (fun c => ?_)
    · have h := h.1 c
      refine p_ald (cc3 c49_19) rfl ?_
      refine p_ild (cc3 c49_20) rfl ?_
      obtain ⟨g2, h⟩ := h
      obtain ⟨g3, h⟩ := h
      refine p_callV (cc3 c49_21) (Nat.le_of_ble_eq_true rfl) rfl rfl (Nat.le_of_ble_eq_true rfl) (wk_kd hW (by decide) g3) (S50 (Nat.le_trans (by decide) hd) hW hR hT hG rr.2 g2) ?_
      refine p_lc (ls' := []) c49_24 rfl rfl ?_
      exact p_ri (cct c49_24 rfl) trivial h
    · have h := h.2 c
      refine p_lc (ls' := []) c49_14 rfl rfl ?_
      refine i_push (n := (-2)) (cct c49_14 rfl) zl_m2 ?_
      refine p_goto (cc3 c49_16) ?_
      exact p_ri (cct c49_24 rfl) trivial h
theorem S49 {d : Nat} (hd : 2 ≤ d) {W : gW} (hW : HW W) {A : Nat → Int → Int} {P : Nat → Int → Nat} (hR : RG A) (hT : Stat W P) (hG : GL W) {x1 x2 : Int} (rr : Rg x1 ∧ Rg x2) (hp : (RelA W P A)) : xev xT d 49 [.ref (lo W 0), .int (iz x1), .int (iz x2)] (Wm W A P) (some (.int (iz (m_thread (mo A) x1 x2)))) (Wm W A P) := by
  refine xev_i (D := 1) hd (Nat.le_of_ble_eq_true rfl) (fun d hd => V49_0 hd hW hR hT hG rr ?_)

  have hct := hp.cto
  obtain ⟨hn1, hn2, hn3, hn4, hn5, hn6⟩ := hp.cn
  have hcs := hct.1
  by_cases q : 0 ≤ x1 ∧ x1 < A 0 10
  · obtain ⟨hO, ⟨e0, e1, e2⟩, hE, hC⟩ := hp.se q.1 (by omega)
    have k6 := hO.1.1
    have hb := hO.2.2.1
    refine ⟨hct, fun z => absurd q z, fun _ => ⟨fun z => ⟨hO, k6, ?_, rfl⟩, fun z => ?_⟩⟩
    · rw [col_k (hp.se q.1 (by omega)) z]
      unfold m_thread
      rw [if_pos (by omega)]
    · unfold m_thread
      rw [if_neg (by omega)]
      exact ⟨rfl, rfl⟩
  · repeat' (first | assumption | (refine And.intro ?_ ?_) | intro _)
    all_goals (first | assumption | rfl | omega | exact rg_bI | (refine congrArg (fun z => some (Value.int (iz z))) ?_; (try unfold m_thread); (repeat' split) <;> first | rfl | omega | (exfalso; omega)))
theorem V51_0 {d : Nat} (hd : 1 ≤ d) {Q : Option Value → xM → Prop} {W : gW} (hW : HW W) {A : Nat → Int → Int} {P : Nat → Int → Nat} (hR : RG A) (hT : Stat W P) (hG : GL W) {x1 x2 x3 : Int} (rr : Rg x1 ∧ Rg x2 ∧ Rg x3) (h : (CtO P A) ∧ (((¬ (0 ≤ x1 ∧ x1 < A 0 10)) → Q (some (.int (iz (-2)))) (Wm W A P)) ∧ (¬ (¬ (0 ≤ x1 ∧ x1 < A 0 10)) → (((x2 < 0) → Q (some (.int (iz (-2)))) (Wm W A P)) ∧ (¬ (x2 < 0) → (((99999 < x2) → Q (some (.int (iz (-2)))) (Wm W A P)) ∧ (¬ (99999 < x2) → (((x3 < 0) → Q (some (.int (iz (-2)))) (Wm W A P)) ∧ (¬ (x3 < 0) → (((x3 ≤ 99999) → (Rg (x2 + x3)) ∧ (((2 ≤ ((x2 + x3).tmod 4)) → (OSt W P A (qS x1)) ∧ (gK W (qS x1) = 6) ∧ Q (some (.int (iz (k_col A (qS x1) x3)))) (Wm W A P)) ∧ (¬ (2 ≤ ((x2 + x3).tmod 4)) → (OSt W P A (qS x1)) ∧ (gK W (qS x1) = 6) ∧ Q (some (.int (iz (k_col A (qS x1) x2)))) (Wm W A P)))) ∧ (¬ (x3 ≤ 99999) → Q (some (.int (iz (-2)))) (Wm W A P)))))))))))) : wpE (xT 51) (xev xT d) Q (0, [(0, .ref (lo W 0)), (1, .int (iz x1)), (2, .int (iz x2)), (3, .int (iz x3))], [], Wm W A P) := by
  refine p_ald (cc3 c51_0) rfl ?_
  refine p_ild (cc3 c51_1) rfl ?_
  obtain ⟨g1, h⟩ := h
  have he := S46 (Nat.le_trans (by decide) hd) hW hR hT hG rr.1 g1
  refine nul_c (c := ¬ (0 ≤ x1 ∧ x1 < A 0 10)) he (fun c he => ?_) (fun c he => ?_) <;> refine p_callV (cc3 c51_2) (Nat.le_of_ble_eq_true rfl) rfl rfl (Nat.le_of_ble_eq_true rfl) (wk_kd hW (by decide) (st_k hT 0 12 (by decide))) he ?_
  · have h := h.1 c
    refine p_astN (ls' := [(4, .null), (0, .ref (lo W 0)), (1, .int (iz x1)), (2, .int (iz x2)), (3, .int (iz x3))]) (cc3 c51_5) (by decide) rfl ?_
    refine p_aldN (cc3 c51_7) rfl ?_
    refine p_ifnN (cc3 c51_9) ?_
    refine p_lc (ls' := []) c51_32 rfl rfl ?_
    refine i_push (n := (-2)) (cct c51_32 rfl) zl_m2 ?_
    exact p_ri (cc3 c51_34) trivial h
  · have h := h.2 c
    refine p_ast (ls' := [(4, .ref (lo W (qS x1))), (0, .ref (lo W 0)), (1, .int (iz x1)), (2, .int (iz x2)), (3, .int (iz x3))]) (cc3 c51_5) (by decide) rfl ?_
    refine p_ald (cc3 c51_7) rfl ?_
    refine p_ifnR (cc3 c51_9) ?_
    refine p_ild (cc3 c51_12) rfl ?_
    refine i_if (c' := x2 < 0) (cc3 c51_13) (c_lt0 rr.2.1) (fun c => ?_) (fun c => ?_)
    · have h := h.1 c
      refine p_lc (ls' := []) c51_32 rfl rfl ?_
      refine i_push (n := (-2)) (cct c51_32 rfl) zl_m2 ?_
      exact p_ri (cc3 c51_34) trivial h
    · have h := h.2 c
      refine p_ild (cc3 c51_16) rfl ?_
      refine i_push (n := 99999) (cc3 c51_17) zl_99999 ?_
      refine i_icmp (c' := 99999 < x2) (cc3 c51_19) (iz_lt (by decide : Rg (99999 : Int)) rr.2.1) (fun c => ?_) (fun c => ?_)
      · have h := h.1 c
        refine p_lc (ls' := []) c51_32 rfl rfl ?_
        refine i_push (n := (-2)) (cct c51_32 rfl) zl_m2 ?_
        exact p_ri (cc3 c51_34) trivial h
      · have h := h.2 c
        refine p_ild (cc3 c51_22) rfl ?_
        refine i_if (c' := x3 < 0) (cc3 c51_23) (c_lt0 rr.2.2) (fun c => ?_) (fun c => ?_)
        · have h := h.1 c
          refine p_lc (ls' := []) c51_32 rfl rfl ?_
          refine i_push (n := (-2)) (cct c51_32 rfl) zl_m2 ?_
          exact p_ri (cc3 c51_34) trivial h
        · have h := h.2 c
          refine p_ild (cc3 c51_26) rfl ?_
          refine i_push (n := 99999) (cc3 c51_27) zl_99999 ?_
          refine i_icmp (c' := x3 ≤ 99999) (cc3 c51_29) (iz_le rr.2.2 (by decide : Rg (99999 : Int))) (fun c => ?_) (fun c => ?_)
          · have h := h.1 c
            refine p_ald (cc3 c51_35) rfl ?_
            refine p_ild (cc3 c51_37) rfl ?_
            refine p_ild (cc3 c51_38) rfl ?_
            obtain ⟨g2, h⟩ := h
            refine (fun _ : Rg (x2 + x3) => i_add (cc3 c51_39) ?_) g2
            refine i_push (n := 4) (cc3 c51_40) zl_4 ?_
            refine i_rem (cc3 c51_41) g2 (by decide) ?_
            refine i_push (n := 2) (cc3 c51_42) zl_2 ?_
            refine i_icmp (c' := 2 ≤ ((x2 + x3).tmod 4)) (cc3 c51_43) (iz_le (by decide : Rg (2 : Int)) (rg_tmod g2 (by decide : 0 < (4 : Int) ∧ (4 : Int) ≤ 2147483647).1)) (fun c => ?_) (fun c => ?_)
            · have h := h.1 c
              refine p_ild (cc3 c51_50) rfl ?_
              refine p_lc (ls' := []) c51_51 rfl rfl ?_
              obtain ⟨g3, h⟩ := h
              obtain ⟨g4, h⟩ := h
              refine p_callV (cct c51_51 rfl) (Nat.le_of_ble_eq_true rfl) rfl rfl (Nat.le_of_ble_eq_true rfl) (wk_kd hW (by decide) g4) (S50 (Nat.le_trans (by decide) hd) hW hR hT hG rr.2.2 g3) ?_
              exact p_ri (cc3 c51_54) trivial h
            · have h := h.2 c
              refine p_ild (cc3 c51_46) rfl ?_
              refine p_goto (cc3 c51_47) ?_
              refine p_lc (ls' := []) c51_51 rfl rfl ?_
              obtain ⟨g3, h⟩ := h
              obtain ⟨g4, h⟩ := h
              refine p_callV (cct c51_51 rfl) (Nat.le_of_ble_eq_true rfl) rfl rfl (Nat.le_of_ble_eq_true rfl) (wk_kd hW (by decide) g4) (S50 (Nat.le_trans (by decide) hd) hW hR hT hG rr.2.1 g3) ?_
              exact p_ri (cc3 c51_54) trivial h
          · have h := h.2 c
            refine p_lc (ls' := []) c51_32 rfl rfl ?_
            refine i_push (n := (-2)) (cct c51_32 rfl) zl_m2 ?_
            exact p_ri (cc3 c51_34) trivial h
theorem S51 {d : Nat} (hd : 2 ≤ d) {W : gW} (hW : HW W) {A : Nat → Int → Int} {P : Nat → Int → Nat} (hR : RG A) (hT : Stat W P) (hG : GL W) {x1 x2 x3 : Int} (rr : Rg x1 ∧ Rg x2 ∧ Rg x3) (hp : (RelA W P A)) : xev xT d 51 [.ref (lo W 0), .int (iz x1), .int (iz x2), .int (iz x3)] (Wm W A P) (some (.int (iz (m_twill (mo A) x1 x2 x3)))) (Wm W A P) := by
  refine xev_i (D := 1) hd (Nat.le_of_ble_eq_true rfl) (fun d hd => V51_0 hd hW hR hT hG rr ?_)

  have hct := hp.cto
  obtain ⟨hn1, hn2, hn3, hn4, hn5, hn6⟩ := hp.cn
  have hcs := hct.1
  by_cases q : 0 ≤ x1 ∧ x1 < A 0 10
  · obtain ⟨hO, ⟨e0, e1, e2⟩, hE, hC⟩ := hp.se q.1 (by omega)
    have k6 := hO.1.1
    have hb := hO.2.2.1
    have ht := fun (h : 0 ≤ x2 + x3) => tmod_pos (x := x2 + x3) (y := 4) h
    have hse := hp.se q.1 (show x1 < mo A 0 2 by omega)
    have e9 : ¬ ((0 ≤ x2 ∧ x2 ≤ 99999) ∧ (0 ≤ x3 ∧ x3 ≤ 99999)) → (some (Value.int (iz (-2))) = some (Value.int (iz (m_twill (mo A) x1 x2 x3))) ∧ Wm W A P = Wm W A P) := fun z => by
      unfold m_twill
      rw [if_neg (fun w => z w.2)]
      exact ⟨rfl, rfl⟩
    refine ⟨hct, fun z => absurd q z, fun _ => ⟨fun z => e9 (by omega), fun z2 => ⟨fun z => e9 (by omega), fun z3 => ⟨fun z => e9 (by omega), fun z4 => ⟨fun z5 => ⟨⟨by omega, by omega⟩, fun z6 => ⟨hO, k6, ?_, rfl⟩, fun z6 => ⟨hO, k6, ?_, rfl⟩⟩, fun z => e9 (by omega)⟩⟩⟩⟩⟩
    · rw [ht (by omega)] at z6
      rw [col_k hse (by omega)]
      unfold m_twill
      rw [if_pos ⟨by omega, by omega, by omega⟩, if_neg (by omega)]
    · rw [ht (by omega)] at z6
      rw [col_k hse (by omega)]
      unfold m_twill
      rw [if_pos ⟨by omega, by omega, by omega⟩, if_pos (by omega)]
  · repeat' (first | assumption | (refine And.intro ?_ ?_) | intro _)
    all_goals (first | assumption | rfl | omega | exact rg_bI | (refine congrArg (fun z => some (Value.int (iz z))) ?_; (try unfold m_twill); (repeat' split) <;> first | rfl | omega | (exfalso; omega)))
theorem V65_0 {d : Nat} (hd : 1 ≤ d) {Q : Option Value → xM → Prop} {W : gW} (hW : HW W) {A : Nat → Int → Int} {P : Nat → Int → Nat} (hR : RG A) (hT : Stat W P) (hG : GL W) {x1 x2 : Int} (rr : Rg x1 ∧ Rg x2) (h : (CtO P A) ∧ (((¬ (0 ≤ x1 ∧ x1 < A 0 12)) → Q (some (.int (iz (-2)))) (Wm W A P)) ∧ (¬ (¬ (0 ≤ x1 ∧ x1 < A 0 12)) → (((x2 = 0) → (gK W (qK x1) = 3) ∧ Q (some (.int (iz (A (qK x1) 0)))) (Wm W A P)) ∧ (¬ (x2 = 0) → ((x2 = 1) → (gK W (qK x1) = 3) ∧ Q (some (.int (iz (A (qK x1) 6)))) (Wm W A P)) ∧ (¬ (x2 = 1) → ((x2 = 2) → (gK W (qK x1) = 3) ∧ Q (some (.int (iz (A (qK x1) 7)))) (Wm W A P)) ∧ (¬ (x2 = 2) → ((x2 = 3) → (gK W (qK x1) = 3) ∧ Q (some (.int (iz (A (qK x1) 8)))) (Wm W A P)) ∧ (¬ (x2 = 3) → ((x2 = 4) → (gK W (qK x1) = 3) ∧ Q (some (.int (iz (A (qK x1) 4)))) (Wm W A P)) ∧ (¬ (x2 = 4) → ((x2 = 5) → (gK W (qK x1) = 3) ∧ Q (some (.int (iz (A (qK x1) 12)))) (Wm W A P)) ∧ (¬ (x2 = 5) → ((x2 = 6) → (gK W (qK x1) = 3) ∧ Q (some (.int (iz (A (qK x1) 13)))) (Wm W A P)) ∧ (¬ (x2 = 6) → ((x2 = 7) → (gK W (qK x1) = 3) ∧ ((((A (qK x1) 14) = 0) → Q (some (.int (iz 0))) (Wm W A P)) ∧ (¬ ((A (qK x1) 14) = 0) → Q (some (.int (iz 1))) (Wm W A P)))) ∧ (¬ (x2 = 7) → ((x2 = 8) → (gK W (qK x1) = 3) ∧ Q (some (.int (iz (A (qK x1) 1)))) (Wm W A P)) ∧ (¬ (x2 = 8) → ((x2 = 9) → (gK W (qK x1) = 3) ∧ Q (some (.int (iz (A (qK x1) 2)))) (Wm W A P)) ∧ (¬ (x2 = 9) → ((x2 = 10) → (gK W (qK x1) = 3) ∧ Q (some (.int (iz (A (qK x1) 3)))) (Wm W A P)) ∧ (¬ (x2 = 10) → Q (some (.int (iz (-2)))) (Wm W A P)))))))))))))))) : wpE (xT 65) (xev xT d) Q (0, [(0, .ref (lo W 0)), (1, .int (iz x1)), (2, .int (iz x2))], [], Wm W A P) := by
  refine p_ald (cc3 c65_0) rfl ?_
  refine p_ild (cc3 c65_1) rfl ?_
  obtain ⟨g1, h⟩ := h
  have he := S66 (Nat.le_trans (by decide) hd) hW hR hT hG rr.1 g1
  refine nul_c (c := ¬ (0 ≤ x1 ∧ x1 < A 0 12)) he (fun c he => ?_) (fun c he => ?_) <;> refine p_callV (cc3 c65_2) (Nat.le_of_ble_eq_true rfl) rfl rfl (Nat.le_of_ble_eq_true rfl) (wk_kd hW (by decide) (st_k hT 0 12 (by decide))) he ?_
  · have h := h.1 c
    refine p_astN (ls' := [(3, .null), (0, .ref (lo W 0)), (1, .int (iz x1)), (2, .int (iz x2))]) (cc3 c65_5) (by decide) rfl ?_
    refine p_aldN (cc3 c65_6) rfl ?_
    refine p_ifnN (cc3 c65_7) ?_
    refine i_push (n := (-2)) (cc3 c65_10) zl_m2 ?_
    exact p_ri (cc3 c65_12) trivial h
  · have h := h.2 c
    refine p_ast (ls' := [(3, .ref (lo W (qK x1))), (0, .ref (lo W 0)), (1, .int (iz x1)), (2, .int (iz x2))]) (cc3 c65_5) (by decide) rfl ?_
    refine p_ald (cc3 c65_6) rfl ?_
    refine p_ifnR (cc3 c65_7) ?_
    refine p_ild (cc3 c65_13) rfl ?_
    refine (fun _ : Rg x2 => p_sw (cc3 c65_14) ?_) rr.2
    refine sw_c (n := 0) rr.2 zl_0 (by decide) (fun c => ?_) (fun c => ?_)
    · have h := h.1 c
      refine p_ald (cc3 c65_72) rfl ?_
      obtain ⟨g2, h⟩ := h
      refine w_geti hW (v := A (qK x1) 0) (cc3 c65_73) g2 (ji := 0) rfl rfl ?_
      exact p_ri (cc3 c65_76) trivial h
    · have h := h.2 c
      refine sw_c (n := 1) rr.2 zl_1 (by decide) (fun c => ?_) (fun c => ?_)
      · have h := h.1 c
        refine p_ald (cc3 c65_77) rfl ?_
        obtain ⟨g2, h⟩ := h
        refine w_geti hW (v := A (qK x1) 6) (cc3 c65_78) g2 (ji := 6) rfl rfl ?_
        exact p_ri (cc3 c65_81) trivial h
      · have h := h.2 c
        refine sw_c (n := 2) rr.2 zl_2 (by decide) (fun c => ?_) (fun c => ?_)
        · have h := h.1 c
          refine p_ald (cc3 c65_82) rfl ?_
          obtain ⟨g2, h⟩ := h
          refine w_geti hW (v := A (qK x1) 7) (cc3 c65_83) g2 (ji := 7) rfl rfl ?_
          exact p_ri (cc3 c65_86) trivial h
        · have h := h.2 c
          refine sw_c (n := 3) rr.2 zl_3 (by decide) (fun c => ?_) (fun c => ?_)
          · have h := h.1 c
            refine p_ald (cc3 c65_87) rfl ?_
            obtain ⟨g2, h⟩ := h
            refine w_geti hW (v := A (qK x1) 8) (cc3 c65_88) g2 (ji := 8) rfl rfl ?_
            exact p_ri (cc3 c65_91) trivial h
          · have h := h.2 c
            refine sw_c (n := 4) rr.2 zl_4 (by decide) (fun c => ?_) (fun c => ?_)
            · have h := h.1 c
              refine p_ald (cc3 c65_92) rfl ?_
              obtain ⟨g2, h⟩ := h
              refine w_geti hW (v := A (qK x1) 4) (cc3 c65_93) g2 (ji := 4) rfl rfl ?_
              exact p_ri (cc3 c65_96) trivial h
            · have h := h.2 c
              refine sw_c (n := 5) rr.2 zl_5 (by decide) (fun c => ?_) (fun c => ?_)
              · have h := h.1 c
                refine p_ald (cc3 c65_97) rfl ?_
                obtain ⟨g2, h⟩ := h
                refine w_geti hW (v := A (qK x1) 12) (cc3 c65_98) g2 (ji := 12) rfl rfl ?_
                exact p_ri (cc3 c65_101) trivial h
              · have h := h.2 c
                refine sw_c (n := 6) rr.2 zl_6 (by decide) (fun c => ?_) (fun c => ?_)
                · have h := h.1 c
                  refine p_ald (cc3 c65_102) rfl ?_
                  obtain ⟨g2, h⟩ := h
                  refine w_geti hW (v := A (qK x1) 13) (cc3 c65_103) g2 (ji := 13) rfl rfl ?_
                  exact p_ri (cc3 c65_106) trivial h
                · have h := h.2 c
                  refine sw_c (n := 7) rr.2 zl_7 (by decide) (fun c => ?_) (fun c => ?_)
                  · have h := h.1 c
                    refine p_ald (cc3 c65_107) rfl ?_
                    obtain ⟨g2, h⟩ := h
                    refine w_geti hW (v := A (qK x1) 14) (cc3 c65_108) g2 (ji := 14) rfl rfl ?_
                    refine i_if (c' := (A (qK x1) 14) = 0) (cc3 c65_111) (c_eq0 (hR (qK x1) 14)) (fun c => ?_) (fun c => ?_)
                    · have h := h.1 c
                      refine i_push (n := 0) (cc3 c65_118) zl_0 ?_
                      refine p_lc (ls' := []) c65_119 rfl rfl ?_
                      exact p_ri (cct c65_119 rfl) trivial h
                    · have h := h.2 c
                      refine i_push (n := 1) (cc3 c65_114) zl_1 ?_
                      refine p_goto (cc3 c65_115) ?_
                      refine p_lc (ls' := []) c65_119 rfl rfl ?_
                      exact p_ri (cct c65_119 rfl) trivial h
                  · have h := h.2 c
                    refine sw_c (n := 8) rr.2 zl_8 (by decide) (fun c => ?_) (fun c => ?_)
                    · have h := h.1 c
                      refine p_ald (cc3 c65_120) rfl ?_
                      obtain ⟨g2, h⟩ := h
                      refine w_geti hW (v := A (qK x1) 1) (cc3 c65_121) g2 (ji := 1) rfl rfl ?_
                      exact p_ri (cc3 c65_124) trivial h
                    · have h := h.2 c
                      refine sw_c (n := 9) rr.2 zl_9 (by decide) (fun c => ?_) (fun c => ?_)
                      · have h := h.1 c
                        refine p_ald (cc3 c65_125) rfl ?_
                        obtain ⟨g2, h⟩ := h
                        refine w_geti hW (v := A (qK x1) 2) (cc3 c65_126) g2 (ji := 2) rfl rfl ?_
                        exact p_ri (cc3 c65_129) trivial h
                      · have h := h.2 c
                        refine sw_c (n := 10) rr.2 zl_10 (by decide) (fun c => ?_) (fun c => ?_)
                        · have h := h.1 c
                          refine p_ald (cc3 c65_130) rfl ?_
                          obtain ⟨g2, h⟩ := h
                          refine w_geti hW (v := A (qK x1) 3) (cc3 c65_131) g2 (ji := 3) rfl rfl ?_
                          exact p_ri (cc3 c65_134) trivial h
                        · have h := h.2 c
                          refine sw_d ?_
                          refine i_push (n := (-2)) (cc3 c65_135) zl_m2 ?_
                          exact p_ri (cc3 c65_137) trivial h
theorem S65 {d : Nat} (hd : 2 ≤ d) {W : gW} (hW : HW W) {A : Nat → Int → Int} {P : Nat → Int → Nat} (hR : RG A) (hT : Stat W P) (hG : GL W) {x1 x2 : Int} (rr : Rg x1 ∧ Rg x2) (hp : (RelA W P A)) : xev xT d 65 [.ref (lo W 0), .int (iz x1), .int (iz x2)] (Wm W A P) (some (.int (iz (m_kiltTold (mo A) x1 x2)))) (Wm W A P) := by
  refine xev_i (D := 1) hd (Nat.le_of_ble_eq_true rfl) (fun d hd => V65_0 hd hW hR hT hG rr ?_)

  have hct := hp.cto
  obtain ⟨hn1, hn2, hn3, hn4, hn5, hn6⟩ := hp.cn
  have hcs := hct.1
  by_cases q : 0 ≤ x1 ∧ x1 < A 0 12
  · obtain ⟨hO, hB, ⟨n0, n1, n2, n3, n4, n5, n6, n7, n8, n9, n12⟩, hU, hL, hN⟩ := hp.ki q.1 (by omega)
    have k3 := hO.1
    have k10 := hO.2.1
    have hOL := hO.2.2.1
    have k5 := hO.2.2.1.1.1
    have ho4 := hO.2.2.2.1
    have ho8 := hO.2.2.2.2.1
    have ho := hO.2.2.2.2.2.2
    by_cases hl : mo A 20 x1 < 0
    · obtain ⟨u1, u2, u3, u4⟩ := hU hl
      repeat' (first | assumption | (refine And.intro ?_ ?_) | intro _)
      all_goals (first | assumption | rfl | omega | (refine congrArg (fun z => some (Value.int (iz z))) ?_; unfold m_kiltTold; ((iterate 13 (try (first | rw [if_pos (by omega)] | rw [if_neg (by omega)]))) <;> first | rfl | omega)))
    · obtain ⟨v1, v2, v3, v4, v5, v6, v7, v8, v9⟩ := hL (by omega)
      repeat' (first | assumption | (refine And.intro ?_ ?_) | intro _)
      all_goals (first | assumption | rfl | omega | (refine congrArg (fun z => some (Value.int (iz z))) ?_; unfold m_kiltTold; ((iterate 13 (try (first | rw [if_pos (by omega)] | rw [if_neg (by omega)]))) <;> first | rfl | omega)))
  · repeat' (first | assumption | (refine And.intro ?_ ?_) | intro _)
    all_goals (first | assumption | rfl | omega | (refine congrArg (fun z => some (Value.int (iz z))) ?_; unfold m_kiltTold; ((iterate 1 (try (first | rw [if_pos (by omega)] | rw [if_neg (by omega)]))) <;> first | rfl | omega)))
theorem V86_0 {d : Nat} (hd : 1 ≤ d) {Q : Option Value → xM → Prop} {W : gW} (hW : HW W) {A : Nat → Int → Int} {P : Nat → Int → Nat} (hR : RG A) (hT : Stat W P) (hG : GL W) {x1 x2 : Int} (rr : Rg x1 ∧ Rg x2) (h : (CtO P A) ∧ (((¬ (0 ≤ x1 ∧ x1 < A 0 12)) → Q (some (.int (iz (-2)))) (Wm W A P)) ∧ (¬ (¬ (0 ≤ x1 ∧ x1 < A 0 12)) → (((x2 < 0) → Q (some (.int (iz (-2)))) (Wm W A P)) ∧ (¬ (x2 < 0) → (((x2 ≤ 4) → (gK W (qK x1) = 3) ∧ (((P (qK x1) 11 = 0) → Q (some (.int (iz (-3)))) (Wm W A P)) ∧ (¬ (P (qK x1) 11 = 0) → (((x2 = 0) → (P (qK x1) 10 = ((qK x1) + 1) + 1) ∧ (gK W ((qK x1) + 1) = 5) ∧ Q (some (.int (iz (A ((qK x1) + 1) 2)))) (Wm W A P)) ∧ (¬ (x2 = 0) → ((x2 = 1) → (P (qK x1) 10 = ((qK x1) + 1) + 1) ∧ (gK W ((qK x1) + 1) = 5) ∧ Q (some (.int (iz (A ((qK x1) + 1) 3)))) (Wm W A P)) ∧ (¬ (x2 = 1) → ((x2 = 2) → (P (qK x1) 10 = ((qK x1) + 1) + 1) ∧ (gK W ((qK x1) + 1) = 5) ∧ Q (some (.int (iz (A ((qK x1) + 1) 4)))) (Wm W A P)) ∧ (¬ (x2 = 2) → ((x2 = 3) → (P (qK x1) 10 = ((qK x1) + 1) + 1) ∧ (gK W ((qK x1) + 1) = 5) ∧ Q (some (.int (iz (A ((qK x1) + 1) 5)))) (Wm W A P)) ∧ (¬ (x2 = 3) → (P (qK x1) 10 = ((qK x1) + 1) + 1) ∧ (gK W ((qK x1) + 1) = 5) ∧ Q (some (.int (iz (A ((qK x1) + 1) 6)))) (Wm W A P))))))))) ∧ (¬ (x2 ≤ 4) → Q (some (.int (iz (-2)))) (Wm W A P)))))))) : wpE (xT 86) (xev xT d) Q (0, [(0, .ref (lo W 0)), (1, .int (iz x1)), (2, .int (iz x2))], [], Wm W A P) := by
  refine p_ald (cc3 c86_0) rfl ?_
  refine p_ild (cc3 c86_1) rfl ?_
  obtain ⟨g1, h⟩ := h
  have he := S66 (Nat.le_trans (by decide) hd) hW hR hT hG rr.1 g1
  refine nul_c (c := ¬ (0 ≤ x1 ∧ x1 < A 0 12)) he (fun c he => ?_) (fun c he => ?_) <;> refine p_callV (cc3 c86_2) (Nat.le_of_ble_eq_true rfl) rfl rfl (Nat.le_of_ble_eq_true rfl) (wk_kd hW (by decide) (st_k hT 0 12 (by decide))) he ?_
  · have h := h.1 c
    refine p_astN (ls' := [(3, .null), (0, .ref (lo W 0)), (1, .int (iz x1)), (2, .int (iz x2))]) (cc3 c86_5) (by decide) rfl ?_
    refine p_aldN (cc3 c86_6) rfl ?_
    refine p_ifnN (cc3 c86_7) ?_
    refine p_lc (ls' := []) c86_19 rfl rfl ?_
    refine i_push (n := (-2)) (cct c86_19 rfl) zl_m2 ?_
    exact p_ri (cc3 c86_21) trivial h
  · have h := h.2 c
    refine p_ast (ls' := [(3, .ref (lo W (qK x1))), (0, .ref (lo W 0)), (1, .int (iz x1)), (2, .int (iz x2))]) (cc3 c86_5) (by decide) rfl ?_
    refine p_ald (cc3 c86_6) rfl ?_
    refine p_ifnR (cc3 c86_7) ?_
    refine p_ild (cc3 c86_10) rfl ?_
    refine i_if (c' := x2 < 0) (cc3 c86_11) (c_lt0 rr.2) (fun c => ?_) (fun c => ?_)
    · have h := h.1 c
      refine p_lc (ls' := []) c86_19 rfl rfl ?_
      refine i_push (n := (-2)) (cct c86_19 rfl) zl_m2 ?_
      exact p_ri (cc3 c86_21) trivial h
    · have h := h.2 c
      refine p_ild (cc3 c86_14) rfl ?_
      refine i_push (n := 4) (cc3 c86_15) zl_4 ?_
      refine i_icmp (c' := x2 ≤ 4) (cc3 c86_16) (iz_le rr.2 (by decide : Rg (4 : Int))) (fun c => ?_) (fun c => ?_)
      · have h := h.1 c
        refine p_ald (cc3 c86_22) rfl ?_
        obtain ⟨g2, h⟩ := h
        refine w_getz hW hT.1 (cc3 c86_23) g2 (ji := 11) rfl ?_ ?_
        · intro cz3
          have h := h.1 cz3
          refine p_ifnN (cc3 c86_26) ?_
          refine i_push (n := (-3)) (cc3 c86_29) zl_m3 ?_
          exact p_ri (cc3 c86_31) trivial h
        · intro cz3
          have h := h.2 cz3
          refine p_ifnR (cc3 c86_26) ?_
          refine p_ild (cc3 c86_32) rfl ?_
          refine (fun _ : Rg x2 => p_sw (cc3 c86_33) ?_) rr.2
          refine sw_c (n := 0) rr.2 zl_0 (by decide) (fun c => ?_) (fun c => ?_)
          · have h := h.1 c
            refine p_ald (cc3 c86_64) rfl ?_
            obtain ⟨g4, h⟩ := h
            refine w_getp hW hT.1 (b := (qK x1) + 1) (cc3 c86_65) g2 (ji := 10) rfl g4 ?_
            obtain ⟨g5, h⟩ := h
            refine w_geti hW (v := A ((qK x1) + 1) 2) (cc3 c86_68) g5 (ji := 2) rfl rfl ?_
            exact p_ri (cc3 c86_71) trivial h
          · have h := h.2 c
            refine sw_c (n := 1) rr.2 zl_1 (by decide) (fun c => ?_) (fun c => ?_)
            · have h := h.1 c
              refine p_ald (cc3 c86_72) rfl ?_
              obtain ⟨g4, h⟩ := h
              refine w_getp hW hT.1 (b := (qK x1) + 1) (cc3 c86_73) g2 (ji := 10) rfl g4 ?_
              obtain ⟨g5, h⟩ := h
              refine w_geti hW (v := A ((qK x1) + 1) 3) (cc3 c86_76) g5 (ji := 3) rfl rfl ?_
              exact p_ri (cc3 c86_79) trivial h
            · have h := h.2 c
              refine sw_c (n := 2) rr.2 zl_2 (by decide) (fun c => ?_) (fun c => ?_)
              · have h := h.1 c
                refine p_ald (cc3 c86_80) rfl ?_
                obtain ⟨g4, h⟩ := h
                refine w_getp hW hT.1 (b := (qK x1) + 1) (cc3 c86_81) g2 (ji := 10) rfl g4 ?_
                obtain ⟨g5, h⟩ := h
                refine w_geti hW (v := A ((qK x1) + 1) 4) (cc3 c86_84) g5 (ji := 4) rfl rfl ?_
                exact p_ri (cc3 c86_87) trivial h
              · have h := h.2 c
                refine sw_c (n := 3) rr.2 zl_3 (by decide) (fun c => ?_) (fun c => ?_)
                · have h := h.1 c
                  refine p_ald (cc3 c86_88) rfl ?_
                  obtain ⟨g4, h⟩ := h
                  refine w_getp hW hT.1 (b := (qK x1) + 1) (cc3 c86_89) g2 (ji := 10) rfl g4 ?_
                  obtain ⟨g5, h⟩ := h
                  refine w_geti hW (v := A ((qK x1) + 1) 5) (cc3 c86_92) g5 (ji := 5) rfl rfl ?_
                  exact p_ri (cc3 c86_95) trivial h
                · have h := h.2 c
                  refine sw_d ?_
                  refine p_ald (cc3 c86_96) rfl ?_
                  obtain ⟨g4, h⟩ := h
                  refine w_getp hW hT.1 (b := (qK x1) + 1) (cc3 c86_97) g2 (ji := 10) rfl g4 ?_
                  obtain ⟨g5, h⟩ := h
                  refine w_geti hW (v := A ((qK x1) + 1) 6) (cc3 c86_100) g5 (ji := 6) rfl rfl ?_
                  exact p_ri (cc3 c86_103) trivial h
      · have h := h.2 c
        refine p_lc (ls' := []) c86_19 rfl rfl ?_
        refine i_push (n := (-2)) (cct c86_19 rfl) zl_m2 ?_
        exact p_ri (cc3 c86_21) trivial h
theorem S86 {d : Nat} (hd : 2 ≤ d) {W : gW} (hW : HW W) {A : Nat → Int → Int} {P : Nat → Int → Nat} (hR : RG A) (hT : Stat W P) (hG : GL W) {x1 x2 : Int} (rr : Rg x1 ∧ Rg x2) (hp : (RelA W P A)) : xev xT d 86 [.ref (lo W 0), .int (iz x1), .int (iz x2)] (Wm W A P) (some (.int (iz (m_laid (mo A) x1 x2)))) (Wm W A P) := by
  refine xev_i (D := 1) hd (Nat.le_of_ble_eq_true rfl) (fun d hd => V86_0 hd hW hR hT hG rr ?_)

  have hct := hp.cto
  obtain ⟨hn1, hn2, hn3, hn4, hn5, hn6⟩ := hp.cn
  have hcs := hct.1
  by_cases q : 0 ≤ x1 ∧ x1 < A 0 12
  · obtain ⟨hO, hB, ⟨n0, n1, n2, n3, n4, n5, n6, n7, n8, n9, n12⟩, hU, hL, hN⟩ := hp.ki q.1 (by omega)
    have k3 := hO.1
    have k10 := hO.2.1
    have hOL := hO.2.2.1
    have k5 := hO.2.2.1.1.1
    have ho4 := hO.2.2.2.1
    have ho8 := hO.2.2.2.2.1
    have ho := hO.2.2.2.2.2.2
    by_cases hl : mo A 20 x1 < 0
    · obtain ⟨u1, u2, u3, u4⟩ := hU hl
      repeat' (first | assumption | (refine And.intro ?_ ?_) | intro _)
      all_goals (first | assumption | rfl | omega | exact rg_bI | (refine congrArg (fun z => some (Value.int (iz z))) ?_; (try unfold m_laid); (repeat' split) <;> first | rfl | omega | (exfalso; omega)))
    · obtain ⟨v1, v2, v3, v4, v5, v6, v7, v8, v9⟩ := hL (by omega)
      repeat' (first | assumption | (refine And.intro ?_ ?_) | intro _)
      all_goals (first | assumption | rfl | omega | exact rg_bI | (refine congrArg (fun z => some (Value.int (iz z))) ?_; (try unfold m_laid); (repeat' split) <;> first | rfl | omega | (exfalso; omega)))
  · repeat' (first | assumption | (refine And.intro ?_ ?_) | intro _)
    all_goals (first | assumption | rfl | omega | exact rg_bI | (refine congrArg (fun z => some (Value.int (iz z))) ?_; (try unfold m_laid); (repeat' split) <;> first | rfl | omega | (exfalso; omega)))
