theorem wr_in {x : Int} (h : Rg x) : wr x = x := iz_t h
theorem wr_hi {x : Int} (h : 2147483647 < x ∧ x ≤ 2147483700) : wr x < 0 := by
  have e : (iz x).toInt = x.bmod 4294967296 := Int32.toInt_ofInt
  unfold wr
  rw [e]
  show (if x % (4294967296 : Int) < ((4294967296 : Int) + 1) / 2 then x % (4294967296 : Int) else x % (4294967296 : Int) - 4294967296) < 0
  split <;> omega
theorem flz_ne {M : Nat → Int → Int} {b x : Int} {c : Nat} (h1 : ¬ c = 9) (h2 : ¬ c = 10) : m_flaw_n M b x c = M c := by
  unfold m_flaw_n
  split
  · exact (UA_n h1).trans (UA_n h2)
  · rfl
theorem V124_0 {d : Nat} (hd : 2 ≤ d) {Q : Option Value → xM → Prop} {W : gW} (hW : HW W) {A : Nat → Int → Int} {P : Nat → Int → Nat} (hR : RG A) (hT : Stat W P) (hG : GL W) {x1 x2 x3 x4 x5 : Int} (rr : Rg x1 ∧ Rg x2 ∧ Rg x3 ∧ Rg x4 ∧ Rg x5) (h : (CtO P A) ∧ (((¬ (0 ≤ x1 ∧ x1 < A 0 11)) → (((¬ (0 ≤ x2 ∧ x2 < 4)) → Q (some (.int (iz (-2)))) (Wm W A P)) ∧ (¬ (¬ (0 ≤ x2 ∧ x2 < 4)) → Q (some (.int (iz (-2)))) (Wm W A P)))) ∧ (¬ (¬ (0 ≤ x1 ∧ x1 < A 0 11)) → (((¬ (0 ≤ x2 ∧ x2 < 4)) → Q (some (.int (iz (-2)))) (Wm W A P)) ∧ (¬ (¬ (0 ≤ x2 ∧ x2 < 4)) → (((x3 < 0) → Q (some (.int (iz (-2)))) (Wm W A P)) ∧ (¬ (x3 < 0) → (((2 < x3) → Q (some (.int (iz (-2)))) (Wm W A P)) ∧ (¬ (2 < x3) → (((x5 < 0) → Q (some (.int (iz (-2)))) (Wm W A P)) ∧ (¬ (x5 < 0) → (((x5 ≤ 20) → (gK W (qH x2) = 8) ∧ ((((A (qH x2) 1) = (-1)) → Q (some (.int (iz (-11)))) (Wm W A P)) ∧ (¬ ((A (qH x2) 1) = (-1)) → ((((A (qH x2) 1) = x3) → wpE (xT 124) (xev xT d) Q (78, [(4, .int (iz x4)), (5, .int (iz x5)), (6, .ref (lo W (qB x1))), (7, .ref (lo W (qH x2))), (8, .int (iz 0)), (9, .int (iz 0))], [], Wm W A P)) ∧ (¬ ((A (qH x2) 1) = x3) → Q (some (.int (iz (-13)))) (Wm W A P)))))) ∧ (¬ (x5 ≤ 20) → Q (some (.int (iz (-2)))) (Wm W A P)))))))))))))) : wpE (xT 124) (xev xT d) Q (0, [(0, .ref (lo W 0)), (1, .int (iz x1)), (2, .int (iz x2)), (3, .int (iz x3)), (4, .int (iz x4)), (5, .int (iz x5))], [], Wm W A P) := by
  refine p_ald (cc3 c124_0) rfl ?_
  refine p_ild (cc3 c124_1) rfl ?_
  obtain ⟨g1, h⟩ := h
  have he := S54 (Nat.le_trans (by decide) hd) hW hR hT hG rr.1 g1
  refine nul_c (c := ¬ (0 ≤ x1 ∧ x1 < A 0 11)) he (fun c he => ?_) (fun c he => ?_) <;> refine p_callV (cc3 c124_2) (Nat.le_of_ble_eq_true rfl) rfl rfl (Nat.le_of_ble_eq_true rfl) (wk_kd hW (by decide) (st_k hT 0 12 (by decide))) he ?_
  · have h := h.1 c
    refine p_astN (ls' := [(6, .null), (0, .ref (lo W 0)), (1, .int (iz x1)), (2, .int (iz x2)), (3, .int (iz x3)), (4, .int (iz x4)), (5, .int (iz x5))]) (cc3 c124_5) (by decide) rfl ?_
    refine p_ald (cc3 c124_7) rfl ?_
    refine p_ild (cc3 c124_8) rfl ?_
    have he := S119 (Nat.le_trans (by decide) hd) hW hR hT hG rr.2.1 g1
    refine nul_c (c := ¬ (0 ≤ x2 ∧ x2 < 4)) he (fun c he => ?_) (fun c he => ?_) <;> refine p_callV (cc3 c124_9) (Nat.le_of_ble_eq_true rfl) rfl rfl (Nat.le_of_ble_eq_true rfl) (wk_kd hW (by decide) (st_k hT 0 12 (by decide))) he ?_
    · have h := h.1 c
      refine p_astN (ls' := [(7, .null), (6, .null), (0, .ref (lo W 0)), (1, .int (iz x1)), (2, .int (iz x2)), (3, .int (iz x3)), (4, .int (iz x4)), (5, .int (iz x5))]) (cc3 c124_12) (by decide) rfl ?_
      refine p_aldN (cc3 c124_14) rfl ?_
      refine p_ifnN (cc3 c124_16) ?_
      refine p_lc (ls' := []) c124_45 rfl rfl ?_
      refine i_push (n := (-2)) (cct c124_45 rfl) zl_m2 ?_
      exact p_ri (cc3 c124_47) trivial h
    · have h := h.2 c
      refine p_ast (ls' := [(7, .ref (lo W (qH x2))), (6, .null), (0, .ref (lo W 0)), (1, .int (iz x1)), (2, .int (iz x2)), (3, .int (iz x3)), (4, .int (iz x4)), (5, .int (iz x5))]) (cc3 c124_12) (by decide) rfl ?_
      refine p_aldN (cc3 c124_14) rfl ?_
      refine p_ifnN (cc3 c124_16) ?_
      refine p_lc (ls' := []) c124_45 rfl rfl ?_
      refine i_push (n := (-2)) (cct c124_45 rfl) zl_m2 ?_
      exact p_ri (cc3 c124_47) trivial h
  · have h := h.2 c
    refine p_ast (ls' := [(6, .ref (lo W (qB x1))), (0, .ref (lo W 0)), (1, .int (iz x1)), (2, .int (iz x2)), (3, .int (iz x3)), (4, .int (iz x4)), (5, .int (iz x5))]) (cc3 c124_5) (by decide) rfl ?_
    refine p_ald (cc3 c124_7) rfl ?_
    refine p_ild (cc3 c124_8) rfl ?_
    have he := S119 (Nat.le_trans (by decide) hd) hW hR hT hG rr.2.1 g1
    refine nul_c (c := ¬ (0 ≤ x2 ∧ x2 < 4)) he (fun c he => ?_) (fun c he => ?_) <;> refine p_callV (cc3 c124_9) (Nat.le_of_ble_eq_true rfl) rfl rfl (Nat.le_of_ble_eq_true rfl) (wk_kd hW (by decide) (st_k hT 0 12 (by decide))) he ?_
    · have h := h.1 c
      refine p_astN (ls' := [(7, .null), (6, .ref (lo W (qB x1))), (0, .ref (lo W 0)), (1, .int (iz x1)), (2, .int (iz x2)), (3, .int (iz x3)), (4, .int (iz x4)), (5, .int (iz x5))]) (cc3 c124_12) (by decide) rfl ?_
      refine p_ald (cc3 c124_14) rfl ?_
      refine p_ifnR (cc3 c124_16) ?_
      refine p_aldN (cc3 c124_19) rfl ?_
      refine p_ifnN (cc3 c124_21) ?_
      refine p_lc (ls' := []) c124_45 rfl rfl ?_
      refine i_push (n := (-2)) (cct c124_45 rfl) zl_m2 ?_
      exact p_ri (cc3 c124_47) trivial h
    · have h := h.2 c
      refine p_ast (ls' := [(7, .ref (lo W (qH x2))), (6, .ref (lo W (qB x1))), (0, .ref (lo W 0)), (1, .int (iz x1)), (2, .int (iz x2)), (3, .int (iz x3)), (4, .int (iz x4)), (5, .int (iz x5))]) (cc3 c124_12) (by decide) rfl ?_
      refine p_ald (cc3 c124_14) rfl ?_
      refine p_ifnR (cc3 c124_16) ?_
      refine p_ald (cc3 c124_19) rfl ?_
      refine p_ifnR (cc3 c124_21) ?_
      refine p_ild (cc3 c124_24) rfl ?_
      refine i_if (c' := x3 < 0) (cc3 c124_25) (c_lt0 rr.2.2.1) (fun c => ?_) (fun c => ?_)
      · have h := h.1 c
        refine p_lc (ls' := []) c124_45 rfl rfl ?_
        refine i_push (n := (-2)) (cct c124_45 rfl) zl_m2 ?_
        exact p_ri (cc3 c124_47) trivial h
      · have h := h.2 c
        refine p_ild (cc3 c124_28) rfl ?_
        refine i_push (n := 2) (cc3 c124_29) zl_2 ?_
        refine i_icmp (c' := 2 < x3) (cc3 c124_30) (iz_lt (by decide : Rg (2 : Int)) rr.2.2.1) (fun c => ?_) (fun c => ?_)
        · have h := h.1 c
          refine p_lc (ls' := []) c124_45 rfl rfl ?_
          refine i_push (n := (-2)) (cct c124_45 rfl) zl_m2 ?_
          exact p_ri (cc3 c124_47) trivial h
        · have h := h.2 c
          refine p_ild (cc3 c124_33) rfl ?_
          refine i_if (c' := x5 < 0) (cc3 c124_35) (c_lt0 rr.2.2.2.2) (fun c => ?_) (fun c => ?_)
          · have h := h.1 c
            refine p_lc (ls' := []) c124_45 rfl rfl ?_
            refine i_push (n := (-2)) (cct c124_45 rfl) zl_m2 ?_
            exact p_ri (cc3 c124_47) trivial h
          · have h := h.2 c
            refine p_ild (cc3 c124_38) rfl ?_
            refine i_push (n := 20) (cc3 c124_40) zl_20 ?_
            refine i_icmp (c' := x5 ≤ 20) (cc3 c124_42) (iz_le rr.2.2.2.2 (by decide : Rg (20 : Int))) (fun c => ?_) (fun c => ?_)
            · have h := h.1 c
              refine p_ald (cc3 c124_48) rfl ?_
              obtain ⟨g2, h⟩ := h
              refine w_geti hW (v := A (qH x2) 1) (cc3 c124_50) g2 (ji := 1) rfl rfl ?_
              refine i_push (n := (-1)) (cc3 c124_53) zl_m1 ?_
              refine i_icmp (c' := (A (qH x2) 1) = (-1)) (cc3 c124_54) (iz_inj (hR (qH x2) 1) (by decide : Rg (-1 : Int))) (fun c => ?_) (fun c => ?_)
              · have h := h.1 c
                refine i_push (n := (-11)) (cc3 c124_57) zl_m11 ?_
                exact p_ri (cc3 c124_59) trivial h
              · have h := h.2 c
                refine p_ald (cc3 c124_60) rfl ?_
                refine w_geti hW (v := A (qH x2) 1) (cc3 c124_62) g2 (ji := 1) rfl rfl ?_
                refine p_ild (cc3 c124_65) rfl ?_
                refine i_icmp (c' := (A (qH x2) 1) = x3) (cc3 c124_66) (iz_inj (hR (qH x2) 1) rr.2.2.1) (fun c => ?_) (fun c => ?_)
                · have h := h.1 c
                  refine i_push (n := 0) (cc3 c124_72) zl_0 ?_
                  refine p_ist (ls' := [(8, .int (iz 0)), (7, .ref (lo W (qH x2))), (6, .ref (lo W (qB x1))), (0, .ref (lo W 0)), (1, .int (iz x1)), (2, .int (iz x2)), (3, .int (iz x3)), (4, .int (iz x4)), (5, .int (iz x5))]) (cc3 c124_73) (by decide) rfl ?_
                  refine i_push (n := 0) (cc3 c124_75) zl_0 ?_
                  refine p_ist (ls' := [(9, .int (iz 0)), (8, .int (iz 0)), (7, .ref (lo W (qH x2))), (6, .ref (lo W (qB x1))), (0, .ref (lo W 0)), (1, .int (iz x1)), (2, .int (iz x2)), (3, .int (iz x3)), (4, .int (iz x4)), (5, .int (iz x5))]) (cc3 c124_76) (by decide) rfl ?_
                  exact p_lc (ls' := [(4, .int (iz x4)), (5, .int (iz x5)), (6, .ref (lo W (qB x1))), (7, .ref (lo W (qH x2))), (8, .int (iz 0)), (9, .int (iz 0))]) c124_78 rfl rfl h
                · have h := h.2 c
                  refine i_push (n := (-13)) (cc3 c124_69) zl_m13 ?_
                  exact p_ri (cc3 c124_71) trivial h
            · have h := h.2 c
              refine p_lc (ls' := []) c124_45 rfl rfl ?_
              refine i_push (n := (-2)) (cct c124_45 rfl) zl_m2 ?_
              exact p_ri (cc3 c124_47) trivial h
theorem V124_78 {d : Nat} (hd : 2 ≤ d) {Q : Option Value → xM → Prop} {W : gW} (hW : HW W) {A : Nat → Int → Int} {P : Nat → Int → Nat} (hR : RG A) (hT : Stat W P) (hG : GL W) {x4 x5 x8 x9 : Int} {a6 a7 : Nat} (rr : Rg x4 ∧ Rg x5 ∧ Rg x8 ∧ Rg x9) (h : (((x5 ≤ x9) → Q (some (.int (iz x8))) (Wm W A P)) ∧ (¬ (x5 ≤ x9) → (gK W a7 = 8) ∧ ((¬ (0 ≤ (wr (x4 + x9)) ∧ (wr (x4 + x9)) < A a7 2 ∧ (wr (x4 + x9)) < 40) → Q (some (.int (iz (-12)))) (Wm W A P)) ∧ ((0 ≤ (wr (x4 + x9)) ∧ (wr (x4 + x9)) < A a7 2 ∧ (wr (x4 + x9)) < 40) → (P a7 0 = (a7 + 1) + 1) ∧ (gK W (a7 + 1) = 20) ∧ (0 ≤ (wr (x4 + x9)) ∧ (wr (x4 + x9)) < gL W (a7 + 1) ∧ (wr (x4 + x9)) ≤ 2147483647) ∧ (OBt W P A a6) ∧ (gK W a6 = 1) ∧ ((((k_mar_r A a6 (A (a7 + 1) (wr (x4 + x9)))) ≤ 0) → (Rg (x9 + 1)) ∧ wpE (xT 124) (xev xT d) Q (78, [(4, .int (iz x4)), (5, .int (iz x5)), (6, .ref (lo W a6)), (7, .ref (lo W a7)), (8, .int (iz x8)), (9, .int (iz (x9 + 1)))], [], Wm W (k_mar_n A a6 (A (a7 + 1) (wr (x4 + x9)))) P)) ∧ (¬ ((k_mar_r A a6 (A (a7 + 1) (wr (x4 + x9)))) ≤ 0) → (Rg (x8 + 1)) ∧ (Rg (x9 + 1)) ∧ wpE (xT 124) (xev xT d) Q (78, [(4, .int (iz x4)), (5, .int (iz x5)), (6, .ref (lo W a6)), (7, .ref (lo W a7)), (8, .int (iz (x8 + 1))), (9, .int (iz (x9 + 1)))], [], Wm W (k_mar_n A a6 (A (a7 + 1) (wr (x4 + x9)))) P)))))))) : wpE (xT 124) (xev xT d) Q (78, [(4, .int (iz x4)), (5, .int (iz x5)), (6, .ref (lo W a6)), (7, .ref (lo W a7)), (8, .int (iz x8)), (9, .int (iz x9))], [], Wm W A P) := by
  refine p_ild (cct c124_78 rfl) rfl ?_
  refine p_ild (cc3 c124_80) rfl ?_
  refine i_icmp (c' := x5 ≤ x9) (cc3 c124_82) (iz_le rr.2.1 rr.2.2.2) (fun c => ?_) (fun c => ?_)
  · have h := h.1 c
    refine p_ild (cc3 c124_129) rfl ?_
    exact p_ri (cc3 c124_131) trivial h
  · have h := h.2 c
    refine p_ald (cc3 c124_85) rfl ?_
    refine p_ild (cc3 c124_87) rfl ?_
    refine p_ild (cc3 c124_89) rfl ?_
    refine i_op (z := wr (x4 + x9)) (cc3 c124_91) (iz_add.trans (iz_of _).symm) ?_
    obtain ⟨g1, h⟩ := h
    refine p_callV (cc3 c124_92) (Nat.le_of_ble_eq_true rfl) rfl rfl (Nat.le_of_ble_eq_true rfl) (wk_kd hW (by decide) g1) (S122 (Nat.le_trans (by decide) hd) hW hR hT hG rg_wr g1) ?_
    refine i_ifB (cc3 c124_95) (fun c => ?_) (fun c => ?_)
    · have h := h.1 c
      refine i_push (n := (-12)) (cc3 c124_98) zl_m12 ?_
      exact p_ri (cc3 c124_100) trivial h
    · have h := h.2 c
      refine p_ald (cc3 c124_101) rfl ?_
      refine p_ald (cc3 c124_103) rfl ?_
      obtain ⟨g2, h⟩ := h
      refine w_getp hW hT.1 (b := a7 + 1) (cc3 c124_105) g1 (ji := 0) rfl g2 ?_
      refine p_ild (cc3 c124_108) rfl ?_
      refine p_ild (cc3 c124_110) rfl ?_
      refine i_op (z := wr (x4 + x9)) (cc3 c124_112) (iz_add.trans (iz_of _).symm) ?_
      obtain ⟨g3, h⟩ := h
      obtain ⟨g4, h⟩ := h
      refine w_aldi hW (v := A (a7 + 1) (wr (x4 + x9))) (cc3 c124_113) g3 g4 rfl ?_
      obtain ⟨g5, h⟩ := h
      obtain ⟨g6, h⟩ := h
      refine p_callV (cc3 c124_114) (Nat.le_of_ble_eq_true rfl) rfl rfl (Nat.le_of_ble_eq_true rfl) (wk_kd hW (by decide) g6) (S55 (Nat.le_trans (by decide) hd) hW hR hT hG (hR (a7 + 1) (wr (x4 + x9))) g5) ?_
      refine i_if (c' := (k_mar_r A a6 (A (a7 + 1) (wr (x4 + x9)))) ≤ 0) (cc3 c124_117) (c_le0 (rg_mar_r g5)) (fun c => ?_) (fun c => ?_)
      · have h := h.1 c
        obtain ⟨g7, h⟩ := h
        refine (fun _ : Rg (x9 + 1) => i_iinc (n := 1) (y := x9 + 1) (ls' := [(9, .int (iz (x9 + 1))), (4, .int (iz x4)), (5, .int (iz x5)), (6, .ref (lo W a6)), (7, .ref (lo W a7)), (8, .int (iz x8))]) (cct c124_123 rfl) (by decide) rfl zl_1 (by first | rfl | omega) rfl ?_) g7
        refine p_goto (cc3 c124_126) ?_
        exact p_lc (ls' := [(4, .int (iz x4)), (5, .int (iz x5)), (6, .ref (lo W a6)), (7, .ref (lo W a7)), (8, .int (iz x8)), (9, .int (iz (x9 + 1)))]) c124_78 rfl rfl h
      · have h := h.2 c
        obtain ⟨g7, h⟩ := h
        refine (fun _ : Rg (x8 + 1) => i_iinc (n := 1) (y := x8 + 1) (ls' := [(8, .int (iz (x8 + 1))), (4, .int (iz x4)), (5, .int (iz x5)), (6, .ref (lo W a6)), (7, .ref (lo W a7)), (9, .int (iz x9))]) (cc3 c124_120) (by decide) rfl zl_1 (by first | rfl | omega) rfl ?_) g7
        refine p_lc (ls' := [(4, .int (iz x4)), (5, .int (iz x5)), (6, .ref (lo W a6)), (7, .ref (lo W a7)), (8, .int (iz (x8 + 1))), (9, .int (iz x9))]) c124_123 rfl rfl ?_
        obtain ⟨g8, h⟩ := h
        refine (fun _ : Rg (x9 + 1) => i_iinc (n := 1) (y := x9 + 1) (ls' := [(9, .int (iz (x9 + 1))), (4, .int (iz x4)), (5, .int (iz x5)), (6, .ref (lo W a6)), (7, .ref (lo W a7)), (8, .int (iz (x8 + 1)))]) (cct c124_123 rfl) (by decide) rfl zl_1 (by first | rfl | omega) rfl ?_) g8
        refine p_goto (cc3 c124_126) ?_
        exact p_lc (ls' := [(4, .int (iz x4)), (5, .int (iz x5)), (6, .ref (lo W a6)), (7, .ref (lo W a7)), (8, .int (iz (x8 + 1))), (9, .int (iz (x9 + 1)))]) c124_78 rfl rfl h

theorem L124 {d : Nat} (hd : 2 ≤ d) {Q : Option Value → xM → Prop} {W : gW} (hW : HW W) {P : Nat → Int → Nat} (hT : Stat W P) (hG : GL W) {A0 : Nat → Int → Int} {b s st n : Int} (hb : 0 ≤ b) (hs : 0 ≤ s ∧ s < 4) (rs : Rg st) (hn : 0 ≤ n ∧ n ≤ 20) : ∀ (r : Nat) (k c : Int) (A M : Nat → Int → Int), k + r = n → 0 ≤ k → 0 ≤ c → c ≤ k → (k = 0 ∨ 0 ≤ st) → RG A → Rel W P A M → b < M 0 8 → 0 ≤ M 43 s → (∀ c', 500 ≤ c' → A c' = A0 c') → (∀ A', RG A' → Rel W P A' (m_flz M b s st r k c).2 → (∀ c', 500 ≤ c' → A' c' = A0 c') → Rg (m_flz M b s st r k c).1 → Q (some (.int (iz (m_flz M b s st r k c).1))) (Wm W A' P)) → wpE (xT 124) (xev xT d) Q (78, [(4, .int (iz st)), (5, .int (iz n)), (6, .ref (lo W (qB b))), (7, .ref (lo W (qH s))), (8, .int (iz c)), (9, .int (iz k))], [], Wm W A P) := by
  intro r
  induction r with
  | zero =>
    intro k c A M hk k0 c0 ck kst hR hr hbm h43 hF hQ
    exact V124_78 hd hW hR hT hG ⟨rs, ⟨by omega, by omega⟩, ⟨by omega, by omega⟩, ⟨by omega, by omega⟩⟩ ⟨fun _ => hQ A hR hr hF ⟨by show -2147483648 ≤ c; omega, by show c ≤ 2147483647; omega⟩, fun z => absurd (by omega) z⟩
  | succ r ih =>
    intro k c A M hk k0 c0 ck kst hR hr hbm h43 hF hQ
    obtain ⟨h1, h2, h3⟩ := hr.sh hs.1 hs.2
    obtain ⟨h4, h5⟩ := h3 h43
    have ob := (hr.ok.2.2.2.1 s hs.1 (by omega)).2
    have hbo := hr.bo hb hbm
    have g1 : gL W (qH s + 1) = 40 := h1.2.2
    have hfz : m_flz M b s st (r + 1) k c = if st < 0 ∨ M 44 s - k - 1 < st then (-12, M) else m_flz (m_flaw_n M b (M 45 (40 * s + st + k))) b s st r (k + 1) (c + (if m_flaw_r M b (M 45 (40 * s + st + k)) < 0 then 0 else 1)) := rfl
    refine V124_78 hd hW hR hT hG ⟨rs, ⟨by omega, by omega⟩, ⟨by omega, by omega⟩, ⟨by omega, by omega⟩⟩ ⟨fun z => absurd z (by omega), fun _ => ⟨h1.1.1, fun z => ?_, fun z => ?_⟩⟩
    · have c9 : st < 0 ∨ M 44 s - k - 1 < st := by
        apply Classical.byContradiction
        intro q
        rw [wr_in ⟨by omega, by omega⟩] at z
        omega
      rw [hfz, if_pos c9] at hQ
      exact hQ A hR hr hF (show Rg (-12) by decide)
    · have c9 : ¬ (st < 0 ∨ M 44 s - k - 1 < st) := by
        intro q
        by_cases s0 : st < 0
        · have kz : k = 0 := by omega
          rw [kz, Int.add_zero, wr_in rs] at z
          omega
        · by_cases hi : 2147483647 < st + k
          · have := wr_hi (x := st + k) ⟨hi, by have := rs.2; omega⟩
            omega
          · rw [wr_in ⟨by omega, by omega⟩] at z
            omega
      have ew : wr (st + k) = st + k := wr_in ⟨by omega, by omega⟩
      rw [ew] at z ⊢
      have e5 : A (qH s + 1) (st + k) = M 45 (40 * s + st + k) := by rw [h5 (st + k) (by omega) (by omega)]; congr 1; omega
      rw [e5]
      obtain ⟨m1, m2⟩ := hr.mar (x := M 45 (40 * s + st + k)) hb hbm
      have rx : Rg (M 45 (40 * s + st + k)) := by rw [← e5]; exact hR _ _
      rw [m1]
      rw [hfz, if_neg c9] at hQ
      have R2 : RG (k_mar_n A (qB b) (M 45 (40 * s + st + k))) := rg_mar hR rx hbo.1
      have qb := qB_d (s := b)
      have b4 := hr.ok.2.1.1
      have F2 : ∀ c', 500 ≤ c' → k_mar_n A (qB b) (M 45 (40 * s + st + k)) c' = A0 c' := fun c' hc => by
        rw [← hF c' hc]
        unfold k_mar_n
        split
        · exact (UA_n (by omega)).trans (UA_n (by omega))
        · rfl
      have b08 : b < m_flaw_n M b (M 45 (40 * s + st + k)) 0 8 := by rw [flz_ne (by decide) (by decide)]; exact hbm
      have b43 : 0 ≤ m_flaw_n M b (M 45 (40 * s + st + k)) 43 s := by rw [flz_ne (by decide) (by decide)]; exact h43
      have pos : ¬ m_flaw_r M b (M 45 (40 * s + st + k)) < 0 → 0 < m_flaw_r M b (M 45 (40 * s + st + k)) := fun q => by
        have hbk := (hr.ok.2.1.2 b hb hbm).2.2
        unfold m_flaw_r at q ⊢
        split at q
        · split at q
          · exact absurd (by decide) q
          · rename_i w1 w2
            rw [if_pos w1, if_neg w2]; omega
        · exact absurd (by decide) q
      refine ⟨h1.2.1, h1.1.2, ⟨by omega, by omega, by omega⟩, hbo.1, hbo.1.1.1, fun y => ?_, fun y => ?_⟩
      · have yn : m_flaw_r M b (M 45 (40 * s + st + k)) < 0 := by
          apply Classical.byContradiction
          intro q
          have := pos q
          omega
        rw [if_pos yn, Int.add_zero] at hQ
        exact ⟨⟨by omega, by omega⟩, ih (k + 1) c _ _ (by omega) (by omega) c0 (by omega) (Or.inr (by omega)) R2 m2 b08 b43 F2 hQ⟩
      · rw [if_neg (by omega)] at hQ
        exact ⟨⟨by omega, by omega⟩, ⟨by omega, by omega⟩, ih (k + 1) (c + 1) _ _ (by omega) (by omega) (by omega) (by omega) (Or.inr (by omega)) R2 m2 b08 b43 F2 hQ⟩
theorem S124 {d : Nat} (hd : 3 ≤ d) {W : gW} (hW : HW W) {A : Nat → Int → Int} {P : Nat → Int → Nat} (hR : RG A) (hT : Stat W P) (hG : GL W) {x1 x2 x3 x4 x5 : Int} (rr : Rg x1 ∧ Rg x2 ∧ Rg x3 ∧ Rg x4 ∧ Rg x5) (hp : (RelA W P A)) : ∃ (r : Int) (A' : Nat → Int → Int), xev xT d 124 [.ref (lo W 0), .int (iz x1), .int (iz x2), .int (iz x3), .int (iz x4), .int (iz x5)] (Wm W A P) (some (.int (iz r))) (Wm W A' P) ∧ Rg r ∧ RG A' ∧ (r = (m_flaws (mo A) x1 x2 x3 x4 x5).1 ∧ Rel W P A' (m_flaws (mo A) x1 x2 x3 x4 x5).2 ∧ ∀ c : Nat, 500 ≤ c → A' c = A c) := by
  refine xev_g (i := 124) (as := [.ref (lo W 0), .int (iz x1), .int (iz x2), .int (iz x3), .int (iz x4), .int (iz x5)]) (σ := Wm W A P) (Q := fun r_ σ_ => ∃ (r : Int) (A' : Nat → Int → Int), r_ = (some (.int (iz r))) ∧ σ_ = Wm W A' P ∧ Rg r ∧ RG A' ∧ (r = (m_flaws (mo A) x1 x2 x3 x4 x5).1 ∧ Rel W P A' (m_flaws (mo A) x1 x2 x3 x4 x5).2 ∧ ∀ c : Nat, 500 ≤ c → A' c = A c)) (D := 2) hd (Nat.le_of_ble_eq_true rfl) (fun r_ σ_ he hq => ?_) (fun d hd => V124_0 hd hW hR hT hG rr ?_)
  · obtain ⟨r, A', rfl, rfl, hq⟩ := hq
    exact ⟨r, A', he, hq⟩

  obtain ⟨hn1, hn2, hn3, hn4, hn5, hn6⟩ := hp.cn
  have out : ∀ v : Int, Rg v → m_flaws (mo A) x1 x2 x3 x4 x5 = (v, mo A) → ∃ (r : Int) (A' : Nat → Int → Int), some (Value.int (iz v)) = some (Value.int (iz r)) ∧ Wm W A P = Wm W A' P ∧ Rg r ∧ RG A' ∧ (r = (m_flaws (mo A) x1 x2 x3 x4 x5).1 ∧ Rel W P A' (m_flaws (mo A) x1 x2 x3 x4 x5).2 ∧ ∀ c : Nat, 500 ≤ c → A' c = A c) := fun v hv e => ⟨v, A, rfl, rfl, hv, hR, by rw [e], by rw [e]; exact hp, fun _ _ => rfl⟩
  have nf : ¬ ((0 ≤ x1 ∧ x1 ≤ mo A 0 8 - 1) ∧ (0 ≤ x2 ∧ x2 ≤ 3) ∧ (0 ≤ x3 ∧ x3 ≤ 2) ∧ (0 ≤ x5 ∧ x5 ≤ 20)) → m_flaws (mo A) x1 x2 x3 x4 x5 = (-2, mo A) := fun z => if_neg z
  have yf : ((0 ≤ x1 ∧ x1 ≤ mo A 0 8 - 1) ∧ (0 ≤ x2 ∧ x2 ≤ 3) ∧ (0 ≤ x3 ∧ x3 ≤ 2) ∧ (0 ≤ x5 ∧ x5 ≤ 20)) → m_flaws (mo A) x1 x2 x3 x4 x5 = (if 0 ≤ mo A 43 x2 ∧ ¬ mo A 43 x2 = x3 then (-13, mo A) else if mo A 43 x2 < 0 then (-11, mo A) else m_flz (mo A) x1 x2 x4 x5.toNat 0 0) := fun z => if_pos z
  have o2 : ¬ ((0 ≤ x1 ∧ x1 ≤ mo A 0 8 - 1) ∧ (0 ≤ x2 ∧ x2 ≤ 3) ∧ (0 ≤ x3 ∧ x3 ≤ 2) ∧ (0 ≤ x5 ∧ x5 ≤ 20)) → _ := fun z => out (-2) (by decide) (nf z)
  refine ⟨hp.cto, fun z => ⟨fun _ => o2 (by omega), fun _ => o2 (by omega)⟩, fun z => ⟨fun z2 => o2 (by omega), fun z2 => ⟨fun z3 => o2 (by omega), fun z3 => ⟨fun z4 => o2 (by omega), fun z4 => ⟨fun z5 => o2 (by omega), fun z5 => ⟨fun z6 => ?_, fun z6 => o2 (by omega)⟩⟩⟩⟩⟩⟩
  obtain ⟨h1, h2, h3⟩ := hp.sh (s := x2) (by omega) (by omega)
  have hy := yf (by omega)
  refine ⟨h1.1.1, fun z7 => out (-11) (by decide) (by rw [hy, if_neg (by omega), if_pos (by omega)]), fun z7 => ⟨fun z8 => ?_, fun z8 => out (-13) (by decide) (by rw [hy, if_pos (by have := hp.ok.2.2.2.1 x2 (by omega) (by omega); omega)])⟩⟩
  rw [hy, if_neg (by omega), if_neg (by omega)]
  exact L124 hd hW hT hG (A0 := A) (by omega) (by omega) rr.2.2.2.1 (by omega) x5.toNat 0 0 A (mo A) (by omega) (Int.le_refl 0) (Int.le_refl 0) (Int.le_refl 0) (Or.inl rfl) hR hp (by omega) (by omega) (fun _ _ => rfl) (fun A' q1 q2 q3 q4 => ⟨_, A', rfl, rfl, q4, q1, rfl, q2, q3⟩)
theorem flz_rg {b s st : Int} : ∀ (r : Nat) (k c : Int) (M : Nat → Int → Int), RG M → BoltsOK M → RG (m_flz M b s st r k c).2 := by
  intro r
  induction r with
  | zero => intro k c M h _; exact h
  | succ r ih =>
    intro k c M h hB
    show RG (if st < 0 ∨ M 44 s - k - 1 < st then ((-12 : Int), M) else m_flz (m_flaw_n M b (M 45 (40 * s + st + k))) b s st r (k + 1) _).2
    split
    · exact h
    · exact ih _ _ _ (m_flaw_rg h (h _ _) hB) (m_flaw_bolts hB)
theorem cl_26 {W : gW} {P : Nat → Int → Nat} {A : Nat → Int → Int} (h : Sta W P A) {x1 x2 x3 x4 x5 : Int} (rr : Rg x1 ∧ Rg x2 ∧ Rg x3 ∧ Rg x4 ∧ Rg x5) : Cll 124 199 [.int (iz x1), .int (iz x2), .int (iz x3), .int (iz x4), .int (iz x5)] W P A := by
  have hr := h.2.2.2.2
  obtain ⟨r, A', hx, r1, r2, r3, r4, r5⟩ := S124 (d := 190) (by decide) h.1 h.2.1 h.2.2.1 h.2.2.2.1 rr hr
  have hm := S199 (d := 190) (by decide) (h.ml2 h.2.2.1.1 hr.mod A') (rg_mo h.2.1) rr ⟨hr.ok.2.1, hr.ok.2.2.2.1⟩
  rw [r3] at hx
  refine stp_m3 h hx r5 hm r2 ?_ r4
  unfold m_flaws
  split
  · split
    · exact rg_mo h.2.1
    · split
      · exact rg_mo h.2.1
      · exact flz_rg _ _ _ _ (rg_mo h.2.1) hr.ok.2.1
  · exact rg_mo h.2.1
