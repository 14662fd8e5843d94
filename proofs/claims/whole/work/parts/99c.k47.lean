theorem V57_0 {d : Nat} (hd : 3 ≤ d) {Q : Option Value → xM → Prop} {W : gW} (hW : HW W) {A : Nat → Int → Int} {P : Nat → Int → Nat} (hR : RG A) (hT : Stat W P) (hG : GL W) {x1 x2 x3 x4 : Int} (rr : Rg x1 ∧ Rg x2 ∧ Rg x3 ∧ Rg x4) (h : (((x1 < 0) → Q (some (.int (iz (-2)))) (Wm W A P)) ∧ (¬ (x1 < 0) → (((6 ≤ x1) → Q (some (.int (iz (-2)))) (Wm W A P)) ∧ (¬ (6 ≤ x1) → (((x4 < 0) → Q (some (.int (iz (-2)))) (Wm W A P)) ∧ (¬ (x4 < 0) → (((10 ≤ x4) → Q (some (.int (iz (-2)))) (Wm W A P)) ∧ (¬ (10 ≤ x4) → ((¬ ((4 ≤ (x2.tdiv 100) ∧ (x2.tdiv 100) ≤ 40) ∧ (20 ≤ (x2.tmod 100) ∧ (x2.tmod 100) ≤ 60) ∧ (4 ≤ (x3.tdiv 100) ∧ (x3.tdiv 100) ≤ 24) ∧ (20 ≤ (x3.tmod 100) ∧ (x3.tmod 100) ≤ (x2.tmod 100)) ∧ ((x2.tmod 100) - (x3.tmod 100)) * (x2.tdiv 100) / 2 ≤ (x3.tdiv 100) * ((x2.tmod 100) * (x2.tdiv 100) / (2 * (x3.tdiv 100)) - 1)) → Q (some (.int (iz (-2)))) (Wm W A P)) ∧ (((4 ≤ (x2.tdiv 100) ∧ (x2.tdiv 100) ≤ 40) ∧ (20 ≤ (x2.tmod 100) ∧ (x2.tmod 100) ≤ 60) ∧ (4 ≤ (x3.tdiv 100) ∧ (x3.tdiv 100) ≤ 24) ∧ (20 ≤ (x3.tmod 100) ∧ (x3.tmod 100) ≤ (x2.tmod 100)) ∧ ((x2.tmod 100) - (x3.tmod 100)) * (x2.tdiv 100) / 2 ≤ (x3.tdiv 100) * ((x2.tmod 100) * (x2.tdiv 100) / (2 * (x3.tdiv 100)) - 1)) → ((((A 0 12) < 8) → wpE (xT 57) (xev xT d) Q (83, [(8, .int (iz (x3.tmod 100))), (7, .int (iz (x3.tdiv 100))), (6, .int (iz (x2.tmod 100))), (5, .int (iz (x2.tdiv 100))), (0, .ref (lo W 0)), (1, .int (iz x1)), (2, .int (iz x2)), (3, .int (iz x3)), (4, .int (iz x4))], [.int (iz (A 0 12)), .ref (lo W 18)], Wm W A P)) ∧ (¬ ((A 0 12) < 8) → Q (some (.int (iz (-4)))) (Wm W A P)))))))))))))) : wpE (xT 57) (xev xT d) Q (0, [(0, .ref (lo W 0)), (1, .int (iz x1)), (2, .int (iz x2)), (3, .int (iz x3)), (4, .int (iz x4))], [], Wm W A P) := by
  refine p_ild (cc3 c57_0) rfl ?_
  refine i_push (n := 100) (cc3 c57_1) zl_100 ?_
  refine i_div (cc3 c57_3) rr.2.1 (by decide) ?_
  refine p_ist (ls' := [(5, .int (iz (x2.tdiv 100))), (0, .ref (lo W 0)), (1, .int (iz x1)), (2, .int (iz x2)), (3, .int (iz x3)), (4, .int (iz x4))]) (cc3 c57_4) (by decide) rfl ?_
  refine p_ild (cc3 c57_6) rfl ?_
  refine i_push (n := 100) (cc3 c57_7) zl_100 ?_
  refine i_rem (cc3 c57_9) rr.2.1 (by decide) ?_
  refine p_ist (ls' := [(6, .int (iz (x2.tmod 100))), (5, .int (iz (x2.tdiv 100))), (0, .ref (lo W 0)), (1, .int (iz x1)), (2, .int (iz x2)), (3, .int (iz x3)), (4, .int (iz x4))]) (cc3 c57_10) (by decide) rfl ?_
  refine p_ild (cc3 c57_12) rfl ?_
  refine i_push (n := 100) (cc3 c57_13) zl_100 ?_
  refine i_div (cc3 c57_15) rr.2.2.1 (by decide) ?_
  refine p_ist (ls' := [(7, .int (iz (x3.tdiv 100))), (6, .int (iz (x2.tmod 100))), (5, .int (iz (x2.tdiv 100))), (0, .ref (lo W 0)), (1, .int (iz x1)), (2, .int (iz x2)), (3, .int (iz x3)), (4, .int (iz x4))]) (cc3 c57_16) (by decide) rfl ?_
  refine p_ild (cc3 c57_18) rfl ?_
  refine i_push (n := 100) (cc3 c57_19) zl_100 ?_
  refine i_rem (cc3 c57_21) rr.2.2.1 (by decide) ?_
  refine p_ist (ls' := [(8, .int (iz (x3.tmod 100))), (7, .int (iz (x3.tdiv 100))), (6, .int (iz (x2.tmod 100))), (5, .int (iz (x2.tdiv 100))), (0, .ref (lo W 0)), (1, .int (iz x1)), (2, .int (iz x2)), (3, .int (iz x3)), (4, .int (iz x4))]) (cc3 c57_22) (by decide) rfl ?_
  refine p_ild (cc3 c57_24) rfl ?_
  refine i_if (c' := x1 < 0) (cc3 c57_25) (c_lt0 rr.1) (fun c => ?_) (fun c => ?_)
  · have h := h.1 c
    refine p_lc (ls' := []) c57_60 rfl rfl ?_
    refine i_push (n := (-2)) (cct c57_60 rfl) zl_m2 ?_
    exact p_ri (cc3 c57_62) trivial h
  · have h := h.2 c
    refine p_ild (cc3 c57_28) rfl ?_
    refine i_push (n := 6) (cc3 c57_29) zl_6 ?_
    refine i_icmp (c' := 6 ≤ x1) (cc3 c57_31) (iz_le (by decide : Rg (6 : Int)) rr.1) (fun c => ?_) (fun c => ?_)
    · have h := h.1 c
      refine p_lc (ls' := []) c57_60 rfl rfl ?_
      refine i_push (n := (-2)) (cct c57_60 rfl) zl_m2 ?_
      exact p_ri (cc3 c57_62) trivial h
    · have h := h.2 c
      refine p_ild (cc3 c57_34) rfl ?_
      refine i_if (c' := x4 < 0) (cc3 c57_36) (c_lt0 rr.2.2.2) (fun c => ?_) (fun c => ?_)
      · have h := h.1 c
        refine p_lc (ls' := []) c57_60 rfl rfl ?_
        refine i_push (n := (-2)) (cct c57_60 rfl) zl_m2 ?_
        exact p_ri (cc3 c57_62) trivial h
      · have h := h.2 c
        refine p_ild (cc3 c57_39) rfl ?_
        refine i_push (n := 10) (cc3 c57_41) zl_10 ?_
        refine i_icmp (c' := 10 ≤ x4) (cc3 c57_43) (iz_le (by decide : Rg (10 : Int)) rr.2.2.2) (fun c => ?_) (fun c => ?_)
        · have h := h.1 c
          refine p_lc (ls' := []) c57_60 rfl rfl ?_
          refine i_push (n := (-2)) (cct c57_60 rfl) zl_m2 ?_
          exact p_ri (cc3 c57_62) trivial h
        · have h := h.2 c
          refine p_ild (cc3 c57_46) rfl ?_
          refine p_ild (cc3 c57_48) rfl ?_
          refine p_ild (cc3 c57_50) rfl ?_
          refine p_ild (cc3 c57_52) rfl ?_
          refine p_callS (cc3 c57_54) (Nat.le_of_ble_eq_true rfl) rfl rfl (Nat.le_of_ble_eq_true rfl) (S58 (Nat.le_trans (by decide) hd) ⟨(rg_tdiv rr.2.1 (by decide : 0 < (100 : Int) ∧ (100 : Int) ≤ 2147483647).1), (rg_tmod rr.2.1 (by decide : 0 < (100 : Int) ∧ (100 : Int) ≤ 2147483647).1), (rg_tdiv rr.2.2.1 (by decide : 0 < (100 : Int) ∧ (100 : Int) ≤ 2147483647).1), (rg_tmod rr.2.2.1 (by decide : 0 < (100 : Int) ∧ (100 : Int) ≤ 2147483647).1)⟩) ?_
          refine i_ifB (cc3 c57_57) (fun c => ?_) (fun c => ?_)
          · have h := h.1 c
            refine p_lc (ls' := []) c57_60 rfl rfl ?_
            refine i_push (n := (-2)) (cct c57_60 rfl) zl_m2 ?_
            exact p_ri (cc3 c57_62) trivial h
          · have h := h.2 c
            refine p_ald (cc3 c57_63) rfl ?_
            refine w_geti hW (v := A 0 12) (cc3 c57_64) (st_k hT 0 12 (by decide)) (ji := 12) rfl rfl ?_
            refine i_push (n := 8) (cc3 c57_67) zl_8 ?_
            refine i_icmp (c' := (A 0 12) < 8) (cc3 c57_69) (iz_lt (hR 0 12) (by decide : Rg (8 : Int))) (fun c => ?_) (fun c => ?_)
            · have h := h.1 c
              refine p_ald (cc3 c57_75) rfl ?_
              refine w_getp hW hT.1 (b := 18) (cc3 c57_76) (st_k hT 0 12 (by decide)) (ji := 7) rfl (st_p hT 0 7 18 (by decide)) ?_
              refine p_ald (cc3 c57_79) rfl ?_
              refine w_geti hW (v := A 0 12) (cc3 c57_80) (st_k hT 0 12 (by decide)) (ji := 12) rfl rfl ?_
              exact h
            · have h := h.2 c
              refine i_push (n := (-4)) (cc3 c57_72) zl_m4 ?_
              exact p_ri (cc3 c57_74) trivial h
theorem V57_86 {d : Nat} (hd : 3 ≤ d) {Q : Option Value → xM → Prop} {W : gW} (hW : HW W) {A : Nat → Int → Int} {P : Nat → Int → Nat} (hR : RG A) (hT : Stat W P) (hG : GL W) {x8 x7 x6 x5 x1 x2 x3 x4 s1 : Int} {b0 : Nat} (rr : Rg x8 ∧ Rg x7 ∧ Rg x6 ∧ Rg x5 ∧ Rg x1 ∧ Rg x2 ∧ Rg x3 ∧ Rg x4 ∧ Rg s1) (h : wpE (xT 57) (xev xT d) Q (98, [(8, .int (iz x8)), (7, .int (iz x7)), (6, .int (iz x6)), (5, .int (iz x5)), (0, .ref (lo W 0)), (1, .int (iz x1)), (2, .int (iz x2)), (3, .int (iz x3)), (4, .int (iz x4))], [.int (iz x4), .int (iz x8), .int (iz x7), .int (iz x6), .int (iz x5), .int (iz x1), .ref (lo W b0), .ref (lo W b0), .int (iz s1), .ref (lo W 18)], Wm W A P)) : wpE (xT 57) (xev xT d) Q (86, [(8, .int (iz x8)), (7, .int (iz x7)), (6, .int (iz x6)), (5, .int (iz x5)), (0, .ref (lo W 0)), (1, .int (iz x1)), (2, .int (iz x2)), (3, .int (iz x3)), (4, .int (iz x4))], [.ref (lo W b0), .int (iz s1), .ref (lo W 18)], Wm W A P) := by
  refine p_dup (cc3 c57_86) rfl ?_
  refine p_ild (cc3 c57_87) rfl ?_
  refine p_ild (cc3 c57_88) rfl ?_
  refine p_ild (cc3 c57_90) rfl ?_
  refine p_ild (cc3 c57_92) rfl ?_
  refine p_ild (cc3 c57_94) rfl ?_
  refine p_ild (cc3 c57_96) rfl ?_
  exact h
theorem V57_101 {d : Nat} (hd : 3 ≤ d) {Q : Option Value → xM → Prop} {W : gW} (hW : HW W) {A : Nat → Int → Int} {P : Nat → Int → Nat} (hR : RG A) (hT : Stat W P) (hG : GL W) {x8 x7 x6 x5 x1 x2 x3 x4 s1 : Int} {b0 : Nat} (rr : Rg x8 ∧ Rg x7 ∧ Rg x6 ∧ Rg x5 ∧ Rg x1 ∧ Rg x2 ∧ Rg x3 ∧ Rg x4 ∧ Rg s1) (h : (0 ≤ s1 ∧ s1 < 8) ∧ (gK W b0 = 3) ∧ (Rg ((A 0 12) + 1)) ∧ (Rg (((A 0 12) + 1) - 1)) ∧ Q (some (.int (iz (((A 0 12) + 1) - 1)))) (Wm W (UA A 0 12 ((A 0 12) + 1)) (UP P 18 s1 (b0 + 1)))) : wpE (xT 57) (xev xT d) Q (101, [(8, .int (iz x8)), (7, .int (iz x7)), (6, .int (iz x6)), (5, .int (iz x5)), (0, .ref (lo W 0)), (1, .int (iz x1)), (2, .int (iz x2)), (3, .int (iz x3)), (4, .int (iz x4))], [.ref (lo W b0), .int (iz s1), .ref (lo W 18)], Wm W A P) := by
  obtain ⟨g1, h⟩ := h
  obtain ⟨g2, h⟩ := h
  refine w_astp hW (cc3 c57_101) (st_k hT 18 25 (by decide)) (st_i hT 18 8 (by decide) g1) g2 ?_
  refine p_ald (cc3 c57_102) rfl ?_
  refine p_dup (cc3 c57_103) rfl ?_
  refine w_geti hW (v := A 0 12) (cc3 c57_104) (st_k (Stat.up (v := b0 + 1) hT (po_r (c := 18) (j := s1) (by decide)) (Or.inr (kn g2))) 0 12 (by decide)) (ji := 12) rfl rfl ?_
  refine i_push (n := 1) (cc3 c57_107) zl_1 ?_
  obtain ⟨g3, h⟩ := h
  refine (fun _ : Rg ((A 0 12) + 1) => i_add (cc3 c57_108) ?_) g3
  refine id (α := Rg ((A 0 12) + 1) → _) (fun _ => ?_) g3; refine w_puti hW (cc3 c57_109) (st_k (Stat.up (v := b0 + 1) hT (po_r (c := 18) (j := s1) (by decide)) (Or.inr (kn g2))) 0 12 (by decide)) (ji := 12) rfl ?_
  refine p_ald (cc3 c57_112) rfl ?_
  refine w_geti hW (v := (A 0 12) + 1) (cc3 c57_113) (st_k (Stat.up (v := b0 + 1) hT (po_r (c := 18) (j := s1) (by decide)) (Or.inr (kn g2))) 0 12 (by decide)) (ji := 12) rfl (by first | rfl | exact UA_eq | exact UA_j (by decide) | exact UA_c (by decide) | simp [UA]) ?_
  refine i_push (n := 1) (cc3 c57_116) zl_1 ?_
  obtain ⟨g4, h⟩ := h
  refine (fun _ : Rg (((A 0 12) + 1) - 1) => i_sub (cc3 c57_117) ?_) g4
  exact p_ri (cc3 c57_118) trivial h
/-- a kilt is made: what stands then -/
theorem kl_rows {A : Nat → Int → Int} {a : Nat} {x1 i hh w x4 : Int} {n : Nat} : (∀ c, ¬ c = a → ¬ c = a + 1 → ¬ c = a + 1 + 1 → ¬ c = a + 1 + 2 → KlA (ZA A a) a x1 i hh (n : Int) w x4 c = A c) ∧ (∀ c, c = a + 1 ∨ c = a + 1 + 1 ∨ c = a + 1 + 2 → ∀ j : Int, KlA (ZA A a) a x1 i hh (n : Int) w x4 c j = 0) ∧ KlA (ZA A a) a x1 i hh (n : Int) w x4 a 0 = x1 ∧ KlA (ZA A a) a x1 i hh (n : Int) w x4 a 1 = i ∧ KlA (ZA A a) a x1 i hh (n : Int) w x4 a 2 = hh ∧ KlA (ZA A a) a x1 i hh (n : Int) w x4 a 3 = w ∧ KlA (ZA A a) a x1 i hh (n : Int) w x4 a 4 = (n : Int) ∧ KlA (ZA A a) a x1 i hh (n : Int) w x4 a 5 = x4 ∧ KlA (ZA A a) a x1 i hh (n : Int) w x4 a 6 = hh * i / (2 * (n : Int)) ∧ KlA (ZA A a) a x1 i hh (n : Int) w x4 a 7 = hh * i - (n : Int) * (hh * i / (2 * (n : Int))) ∧ KlA (ZA A a) a x1 i hh (n : Int) w x4 a 8 = (hh - w) * i / 2 ∧ KlA (ZA A a) a x1 i hh (n : Int) w x4 a 9 = bI (kAb x1 1) ∧ KlA (ZA A a) a x1 i hh (n : Int) w x4 a 12 = -1 ∧ KlA (ZA A a) a x1 i hh (n : Int) w x4 a 13 = -1 ∧ KlA (ZA A a) a x1 i hh (n : Int) w x4 a 14 = 0 ∧ KlA (ZA A a) a x1 i hh (n : Int) w x4 a 15 = 0 := by
  have r : ∀ c, ¬ c = a → ¬ c = a + 1 → ¬ c = a + 1 + 1 → ¬ c = a + 1 + 2 → KlA (ZA A a) a x1 i hh (n : Int) w x4 c = A c := fun c z0 z1 z2 z3 => by
    show ZA (ZA (ZA (KlA0 (ZA A a) a x1 i hh (n : Int) w x4) (a + 1)) (a + 1 + 1)) (a + 1 + 2) c = _
    rw [ZA_n z3, ZA_n z2, ZA_n z1]
    show UA (UA (UA (UA (UA (UA (UA (UA (UA (UA (UA (UA (ZA A a) a 12 (-1)) a 13 (-1)) a 0 _) a 1 _) a 2 _) a 4 _) a 3 _) a 5 _) a 6 _) a 7 _) a 8 _) a 9 _ c = _
    rw [UA_n z0, UA_n z0, UA_n z0, UA_n z0, UA_n z0, UA_n z0, UA_n z0, UA_n z0, UA_n z0, UA_n z0, UA_n z0, UA_n z0, ZA_n z0]
  have ra : ∀ j : Int, KlA (ZA A a) a x1 i hh (n : Int) w x4 a j = KlA0 (ZA A a) a x1 i hh (n : Int) w x4 a j := fun j => by
    show ZA (ZA (ZA (KlA0 (ZA A a) a x1 i hh (n : Int) w x4) (a + 1)) (a + 1 + 1)) (a + 1 + 2) a j = _
    rw [ZA_n (by omega), ZA_n (by omega), ZA_n (by omega)]
  refine ⟨r, fun c hc j => ?_, by rw [ra]; unfold KlA0; rw [UA_j (by decide), UA_j (by decide), UA_j (by decide), UA_j (by decide), UA_j (by decide), UA_j (by decide), UA_j (by decide), UA_j (by decide), UA_j (by decide), UA_eq], by rw [ra]; unfold KlA0; rw [UA_j (by decide), UA_j (by decide), UA_j (by decide), UA_j (by decide), UA_j (by decide), UA_j (by decide), UA_j (by decide), UA_j (by decide), UA_eq], by rw [ra]; unfold KlA0; rw [UA_j (by decide), UA_j (by decide), UA_j (by decide), UA_j (by decide), UA_j (by decide), UA_j (by decide), UA_j (by decide), UA_eq], by rw [ra]; unfold KlA0; rw [UA_j (by decide), UA_j (by decide), UA_j (by decide), UA_j (by decide), UA_j (by decide), UA_eq], by rw [ra]; unfold KlA0; rw [UA_j (by decide), UA_j (by decide), UA_j (by decide), UA_j (by decide), UA_j (by decide), UA_j (by decide), UA_eq], by rw [ra]; unfold KlA0; rw [UA_j (by decide), UA_j (by decide), UA_j (by decide), UA_j (by decide), UA_eq], by rw [ra]; unfold KlA0; rw [UA_j (by decide), UA_j (by decide), UA_j (by decide), UA_eq], by rw [ra]; unfold KlA0; rw [UA_j (by decide), UA_j (by decide), UA_eq], by rw [ra]; unfold KlA0; rw [UA_j (by decide), UA_eq], by rw [ra]; unfold KlA0; rw [UA_eq], by rw [ra]; unfold KlA0; rw [UA_j (by decide), UA_j (by decide), UA_j (by decide), UA_j (by decide), UA_j (by decide), UA_j (by decide), UA_j (by decide), UA_j (by decide), UA_j (by decide), UA_j (by decide), UA_j (by decide), UA_eq], by rw [ra]; unfold KlA0; rw [UA_j (by decide), UA_j (by decide), UA_j (by decide), UA_j (by decide), UA_j (by decide), UA_j (by decide), UA_j (by decide), UA_j (by decide), UA_j (by decide), UA_j (by decide), UA_eq], by rw [ra]; unfold KlA0; rw [UA_j (by decide), UA_j (by decide), UA_j (by decide), UA_j (by decide), UA_j (by decide), UA_j (by decide), UA_j (by decide), UA_j (by decide), UA_j (by decide), UA_j (by decide), UA_j (by decide), UA_j (by decide), ZA_e], by rw [ra]; unfold KlA0; rw [UA_j (by decide), UA_j (by decide), UA_j (by decide), UA_j (by decide), UA_j (by decide), UA_j (by decide), UA_j (by decide), UA_j (by decide), UA_j (by decide), UA_j (by decide), UA_j (by decide), UA_j (by decide), ZA_e]⟩
  show ZA (ZA (ZA (KlA0 (ZA A a) a x1 i hh (n : Int) w x4) (a + 1)) (a + 1 + 1)) (a + 1 + 2) c j = _
  rcases hc with e | e | e <;> subst e
  · rw [ZA_n (by omega), ZA_n (by omega), ZA_e]
  · rw [ZA_n (by omega), ZA_e]
  · rw [ZA_e]
theorem kl_refs {P : Nat → Int → Nat} {a : Nat} : (∀ c, ¬ c = a → ¬ c = a + 1 → ¬ c = a + 1 + 1 → ¬ c = a + 1 + 2 → KlP (ZP P a) a c = P c) ∧ KlP (ZP P a) a a 10 = (a + 1) + 1 ∧ KlP (ZP P a) a a 11 = 0 ∧ KlP (ZP P a) a (a + 1) 0 = (a + 1 + 1) + 1 ∧ KlP (ZP P a) a (a + 1) 1 = (a + 1 + 2) + 1 := by
  have e : KlP (ZP P a) a = UP (UP (ZP (UP (ZP (ZP (ZP P a) (a + 1)) (a + 1 + 1)) (a + 1) 0 ((a + 1 + 1) + 1)) (a + 1 + 2)) (a + 1) 1 ((a + 1 + 2) + 1)) a 10 ((a + 1) + 1) := rfl
  rw [e]
  refine ⟨fun c z0 z1 z2 z3 => ?_, UP_e, ?_, ?_, ?_⟩
  · rw [UP_n z0, UP_n z1, ZP_n z3, UP_n z1, ZP_n z2, ZP_n z1, ZP_n z0]
  · rw [UP_j (by decide), UP_n (by omega), ZP_n (by omega), UP_n (by omega), ZP_n (by omega), ZP_n (by omega), ZP_e]
  · rw [UP_n (by omega), UP_j (by decide), ZP_n (by omega), UP_e]
  · rw [UP_n (by omega), UP_e]
theorem cl_8 {W : gW} {P : Nat → Int → Nat} {A : Nat → Int → Int} (h : Sta W P A) {x1 x2 x3 x4 : Int} (rr : Rg x1 ∧ Rg x2 ∧ Rg x3 ∧ Rg x4) : Cll 57 145 [.int (iz x1), .int (iz x2), .int (iz x3), .int (iz x4)] W P A := by
  obtain ⟨hW, hR, hT, hG, hr⟩ := h
  obtain ⟨hn1, hn2, hn3, hn4, hn5, hn6⟩ := hr.cn
  obtain ⟨oS0, oB0, oK0, oH0, oT0, oR0⟩ := hr.ok
  have hcs := hr.cto.1
  have hm := fun (W' : gW) (hW' : HW W') (P' : Nat → Int → Nat) (hT' : HR W' P') (h3 : RMo W' P') (B : Nat → Int → Int) => S145 (d := 190) (by decide) (ml_W (A := B) hW' hT' h3) (rg_mo hR) rr oK0.1
  have V0 := fun (d : Nat) (hd : 3 ≤ d) (Q : Option Value → xM → Prop) => V57_0 (Q := Q) hd hW hR hT hG rr
  generalize x2.tdiv 100 = i at *
  generalize x2.tmod 100 = hh at *
  generalize x3.tdiv 100 = n0 at *
  generalize x3.tmod 100 = w at *
  by_cases q : m_kilt_ok x1 i hh n0 w x4
  · obtain ⟨q1, q2, q3, q4, q5, q6, q7⟩ := id q
    by_cases f : mo A 0 13 = 8
    · have hx : xev xT 190 57 [.ref (lo W 0), .int (iz x1), .int (iz x2), .int (iz x3), .int (iz x4)] (Wm W A P) (some (.int (iz (-4)))) (Wm W A P) := by
        refine xev_i (D := 3) (by decide) (Nat.le_of_ble_eq_true rfl) (fun d hd => V0 d hd _ ⟨fun z => absurd z (by omega), fun _ => ⟨fun z => absurd z (by omega), fun _ => ⟨fun z => absurd z (by omega), fun _ => ⟨fun z => absurd z (by omega), fun _ => ⟨fun z => absurd ⟨q2, q3, q4, q5, q7⟩ z, fun _ => ⟨fun z => absurd z (by omega), fun _ => ⟨rfl, rfl⟩⟩⟩⟩⟩⟩⟩)
      have hm := hm W hW P hT.1 hr.mod A
      have e1 : m_kilt_r (mo A) x1 i hh n0 w x4 = -4 := by unfold m_kilt_r; rw [if_pos q, if_pos f]
      have e2 : m_kilt_n (mo A) x1 i hh n0 w x4 = mo A := by unfold m_kilt_n; rw [if_neg (fun z => z.2 f)]
      rw [e1, e2] at hm
      exact stp_ro ⟨hW, hR, hT, hG, hr⟩ hx hm
    obtain ⟨n, rfl⟩ : ∃ n : Nat, n0 = (n : Int) := ⟨n0.toNat, by omega⟩
    obtain ⟨a, ha⟩ : ∃ a, a = qK (A 0 12) := ⟨_, rfl⟩
    have qa := qK_d (s := A 0 12)
    rw [← ha] at qa
    have f0 : gK W a = 0 := hr.fr.2.2.2.1 a (by omega) (by omega)
    have f1 : gK W (a + 1) = 0 := hr.fr.2.2.2.1 (a + 1) (by omega) (by omega)
    have f2 : gK W (a + 2) = 0 := hr.fr.2.2.2.1 (a + 2) (by omega) (by omega)
    have f3 : gK W (a + 3) = 0 := hr.fr.2.2.2.1 (a + 3) (by omega) (by omega)
    have W1 : HW (gN W a 3 16) := gN_ok hW f0 (by decide)
    have T1 : Stat (gN W a 3 16) (ZP P a) := hT.gN hG f0 (by omega) (by decide)
    have G1 : GL (gN W a 3 16) := hG.gN f0
    have R1 : RG (ZA A a) := rg_ZA hR
    have rs : Rg i ∧ Rg hh ∧ Rg (n : Int) ∧ Rg w := ⟨⟨by omega, by omega⟩, ⟨by omega, by omega⟩, ⟨by omega, by omega⟩, ⟨by omega, by omega⟩⟩
    have sty : StyA (ZA A a) := by
      have z := hr.st.sty
      unfold StyA at z ⊢
      rw [ZA_n (show ¬ 530 = a by omega)]; exact z
    have key := fun (d : Nat) (hd : 3 ≤ d) => S62 (d := d) hd W1 R1 T1 G1 (x1 := x1) (x2 := i) (x3 := hh) (x4 := (n : Int)) (x5 := w) (x6 := x4) (a := a) ⟨rr.1, rs.1, rs.2.1, rs.2.2.1, rs.2.2.2, rr.2.2.2⟩ ⟨by omega, gN_K_e, by rw [gN_K_n (by omega)]; exact f1, by rw [gN_K_n (by omega)]; exact f2, by rw [gN_K_n (by omega)]; exact f3⟩ ⟨sty, by omega⟩ ⟨q1, q2, q3, q4, q5⟩
    obtain ⟨-, W2, R2, T2, G2⟩ := key 3 (Nat.le_refl 3)
    simp only [Int.toNat_natCast] at key W2 R2 T2 G2
    have kW : ∀ c, ¬ c = a → ¬ c = a + 1 → ¬ c = a + 1 + 1 → ¬ c = a + 1 + 2 → gK (KlW (gN W a 3 16) a n) c = gK W c ∧ gL (KlW (gN W a 3 16) a n) c = gL W c ∧ lo (KlW (gN W a 3 16) a n) c = lo W c := fun c z0 z1 z2 z3 => ⟨by rw [gN_K_n z3, gN_K_n z2, gN_K_n z1, gN_K_n z0], by rw [gN_L_n z3, gN_L_n z2, gN_L_n z1, gN_L_n z0], by rw [gN_lo_n z3, gN_lo_n z2, gN_lo_n z1, gN_lo_n z0]⟩
    have ka : gK (KlW (gN W a 3 16) a n) a = 3 := by rw [gN_K_n (by omega), gN_K_n (by omega), gN_K_n (by omega)]; exact gN_K_e
    have ka1 : gK (KlW (gN W a 3 16) a n) (a + 1) = 5 := by rw [gN_K_n (by omega), gN_K_n (by omega)]; exact gN_K_e
    have ka2 : gK (KlW (gN W a 3 16) a n) (a + 1 + 1) = 20 := by rw [gN_K_n (by omega)]; exact gN_K_e
    have ka3 : gK (KlW (gN W a 3 16) a n) (a + 1 + 2) = 20 := gN_K_e
    have la2 : gL (KlW (gN W a 3 16) a n) (a + 1 + 1) = n := by rw [gN_L_n (by omega)]; exact gN_L_e
    have la3 : gL (KlW (gN W a 3 16) a n) (a + 1 + 2) = n := gN_L_e
    have lKl : ∀ c, c = 18 ∨ c = 0 ∨ c = a → lo (KlW (gN W a 3 16) a n) c = lo (gN W a 3 16) c := fun c z => by rw [gN_lo_n (by omega), gN_lo_n (by omega), gN_lo_n (by omega)]
    have T3 : Stat (KlW (gN W a 3 16) a n) (UP (KlP (ZP P a) a) 18 (A 0 12) (a + 1)) := Stat.up (v := a + 1) (c := 18) (j := A 0 12) T2 (po_r (c := 18) (by decide)) (Or.inr (by rw [NZ, Nat.add_sub_cancel, ka]; decide))
    obtain ⟨A2n, A2z, b0, b1, b2, b3, b4, b5, b6, b7, b8', b9, b12, b13, b14, b15⟩ := kl_rows (A := A) (a := a) (x1 := x1) (i := i) (hh := hh) (w := w) (x4 := x4) (n := n)
    obtain ⟨P2n, p10, p11, p20, p21⟩ := kl_refs (P := P) (a := a)
    have gsz2 : gsz (KlW (gN W a 3 16) a n) = gsz W + 4 ∧ gsl (KlW (gN W a 3 16) a n) = gsl W + 16 + 7 + n + n := ⟨rfl, rfl⟩
    generalize KlA (ZA A a) a x1 i hh (n : Int) w x4 = A2 at *
    generalize KlP (ZP P a) a = P2 at *
    generalize KlW (gN W a 3 16) a n = W2' at *
    have A20 : A2 0 = A 0 := A2n 0 (by omega) (by omega) (by omega) (by omega)
    have hx : xev xT 190 57 [.ref (lo W 0), .int (iz x1), .int (iz x2), .int (iz x3), .int (iz x4)] (Wm W A P) (some (.int (iz (A 0 12)))) (Wm W2' (UA A2 0 12 (A 0 12 + 1)) (UP P2 18 (A 0 12) (a + 1))) := by
      refine xev_i (D := 3) (by decide) (Nat.le_of_ble_eq_true rfl) (fun d hd => V0 d hd _ ⟨fun z => absurd z (by omega), fun _ => ⟨fun z => absurd z (by omega), fun _ => ⟨fun z => absurd z (by omega), fun _ => ⟨fun z => absurd z (by omega), fun _ => ⟨fun z => absurd ⟨q2, q3, q4, q5, q7⟩ z, fun _ => ⟨fun _ => ?_, fun z => absurd (by omega) z⟩⟩⟩⟩⟩⟩)
      refine w_new hW hT.1 (cc3 c57_83) a f0 (fun V1 e1 _ => ?_)
      have e1' : V1 = gN W a 3 16 := e1
      subst e1'
      rw [show lo W 18 = lo (gN W a 3 16) 18 from (gN_lo_n (by omega)).symm, show lo W 0 = lo (gN W a 3 16) 0 from (gN_lo_n (by omega)).symm]
      refine V57_86 hd W1 R1 T1 G1 ⟨rs.2.2.2, rs.2.2.1, rs.2.1, rs.1, rr.1, rr.2.1, rr.2.2.1, rr.2.2.2, ⟨by omega, by omega⟩⟩ ?_
      refine p_callI (cc3 c57_98) (Nat.le_of_ble_eq_true rfl) rfl rfl (Nat.le_of_ble_eq_true rfl) (key d hd).1 ?_
      show wpE _ _ _ (101, [(8, .int (iz w)), (7, .int (iz (n : Int))), (6, .int (iz hh)), (5, .int (iz i)), (0, .ref (lo (gN W a 3 16) 0)), (1, .int (iz x1)), (2, .int (iz x2)), (3, .int (iz x3)), (4, .int (iz x4))], [.ref (lo (gN W a 3 16) a), .int (iz (A 0 12)), .ref (lo (gN W a 3 16) 18)], _)
      rw [← lKl 18 (by omega), ← lKl 0 (by omega), ← lKl a (by omega)]
      refine V57_101 hd W2 R2 T2 G2 ⟨rs.2.2.2, rs.2.2.1, rs.2.1, rs.1, rr.1, rr.2.1, rr.2.2.1, rr.2.2.2, ⟨by omega, by omega⟩⟩ ⟨by omega, ka, by rw [A20]; exact ⟨by omega, by omega⟩, by rw [A20]; exact ⟨by omega, by omega⟩, ?_⟩
      rw [A20, show A 0 12 + 1 - 1 = A 0 12 by omega]
      exact ⟨rfl, rfl⟩
    have e1 : m_kilt_r (mo A) x1 i hh (n : Int) w x4 = A 0 12 := by unfold m_kilt_r; rw [if_pos q, if_neg f, hn3]
    have e2 : m_kilt_n (mo A) x1 i hh (n : Int) w x4 = (UA (UA (UA (UA (UA (UA (UA (UA (UA (UA (UA (mo A) 11 (mo A 0 13) x1) 12 (mo A 0 13) i) 13 (mo A 0 13) hh) 14 (mo A 0 13) w) 15 (mo A 0 13) (n : Int)) 16 (mo A 0 13) x4) 17 (mo A 0 13) (hh * i / (2 * (n : Int)))) 18 (mo A 0 13) (hh * i - (n : Int) * (hh * i / (2 * (n : Int))))) 19 (mo A 0 13) ((hh - w) * i / 2)) 20 (mo A 0 13) (-1)) 0 13 (mo A 0 13 + 1)) := by unfold m_kilt_n; rw [if_pos ⟨q, f⟩]
    have m : ∀ c, ¬ c = 0 → ¬ (11 ≤ c ∧ c ≤ 20) → (UA (UA (UA (UA (UA (UA (UA (UA (UA (UA (UA (mo A) 11 (mo A 0 13) x1) 12 (mo A 0 13) i) 13 (mo A 0 13) hh) 14 (mo A 0 13) w) 15 (mo A 0 13) (n : Int)) 16 (mo A 0 13) x4) 17 (mo A 0 13) (hh * i / (2 * (n : Int)))) 18 (mo A 0 13) (hh * i - (n : Int) * (hh * i / (2 * (n : Int))))) 19 (mo A 0 13) ((hh - w) * i / 2)) 20 (mo A 0 13) (-1)) 0 13 (mo A 0 13 + 1)) c = mo A c := fun c z0 z1 => by
      rw [UA_n z0, UA_n (by omega), UA_n (by omega), UA_n (by omega), UA_n (by omega), UA_n (by omega), UA_n (by omega), UA_n (by omega), UA_n (by omega), UA_n (by omega), UA_n (by omega)]
    have m0 : ∀ j : Int, ¬ j = 13 → (UA (UA (UA (UA (UA (UA (UA (UA (UA (UA (UA (mo A) 11 (mo A 0 13) x1) 12 (mo A 0 13) i) 13 (mo A 0 13) hh) 14 (mo A 0 13) w) 15 (mo A 0 13) (n : Int)) 16 (mo A 0 13) x4) 17 (mo A 0 13) (hh * i / (2 * (n : Int)))) 18 (mo A 0 13) (hh * i - (n : Int) * (hh * i / (2 * (n : Int))))) 19 (mo A 0 13) ((hh - w) * i / 2)) 20 (mo A 0 13) (-1)) 0 13 (mo A 0 13 + 1)) 0 j = mo A 0 j := fun j z => by rw [UA_j z, UA_c (by decide), UA_c (by decide), UA_c (by decide), UA_c (by decide), UA_c (by decide), UA_c (by decide), UA_c (by decide), UA_c (by decide), UA_c (by decide), UA_c (by decide)]
    have m013 : (UA (UA (UA (UA (UA (UA (UA (UA (UA (UA (UA (mo A) 11 (mo A 0 13) x1) 12 (mo A 0 13) i) 13 (mo A 0 13) hh) 14 (mo A 0 13) w) 15 (mo A 0 13) (n : Int)) 16 (mo A 0 13) x4) 17 (mo A 0 13) (hh * i / (2 * (n : Int)))) 18 (mo A 0 13) (hh * i - (n : Int) * (hh * i / (2 * (n : Int))))) 19 (mo A 0 13) ((hh - w) * i / 2)) 20 (mo A 0 13) (-1)) 0 13 (mo A 0 13 + 1)) 0 13 = mo A 0 13 + 1 := UA_eq
    have m11 : ∀ j : Int, (UA (UA (UA (UA (UA (UA (UA (UA (UA (UA (UA (mo A) 11 (mo A 0 13) x1) 12 (mo A 0 13) i) 13 (mo A 0 13) hh) 14 (mo A 0 13) w) 15 (mo A 0 13) (n : Int)) 16 (mo A 0 13) x4) 17 (mo A 0 13) (hh * i / (2 * (n : Int)))) 18 (mo A 0 13) (hh * i - (n : Int) * (hh * i / (2 * (n : Int))))) 19 (mo A 0 13) ((hh - w) * i / 2)) 20 (mo A 0 13) (-1)) 0 13 (mo A 0 13 + 1)) 11 j = if j = mo A 0 13 then x1 else mo A 11 j := fun j => by
      rw [UA_c (by decide), UA_c (by decide), UA_c (by decide), UA_c (by decide), UA_c (by decide), UA_c (by decide), UA_c (by decide), UA_c (by decide), UA_c (by decide), UA_c (by decide)]
      by_cases z : j = mo A 0 13
      · rw [if_pos z, z, UA_eq]
      · rw [if_neg z, UA_j z]
    have m12 : ∀ j : Int, (UA (UA (UA (UA (UA (UA (UA (UA (UA (UA (UA (mo A) 11 (mo A 0 13) x1) 12 (mo A 0 13) i) 13 (mo A 0 13) hh) 14 (mo A 0 13) w) 15 (mo A 0 13) (n : Int)) 16 (mo A 0 13) x4) 17 (mo A 0 13) (hh * i / (2 * (n : Int)))) 18 (mo A 0 13) (hh * i - (n : Int) * (hh * i / (2 * (n : Int))))) 19 (mo A 0 13) ((hh - w) * i / 2)) 20 (mo A 0 13) (-1)) 0 13 (mo A 0 13 + 1)) 12 j = if j = mo A 0 13 then i else mo A 12 j := fun j => by
      rw [UA_c (by decide), UA_c (by decide), UA_c (by decide), UA_c (by decide), UA_c (by decide), UA_c (by decide), UA_c (by decide), UA_c (by decide), UA_c (by decide)]
      by_cases z : j = mo A 0 13
      · rw [if_pos z, z, UA_eq]
      · rw [if_neg z, UA_j z, UA_c (by decide)]
    have m13 : ∀ j : Int, (UA (UA (UA (UA (UA (UA (UA (UA (UA (UA (UA (mo A) 11 (mo A 0 13) x1) 12 (mo A 0 13) i) 13 (mo A 0 13) hh) 14 (mo A 0 13) w) 15 (mo A 0 13) (n : Int)) 16 (mo A 0 13) x4) 17 (mo A 0 13) (hh * i / (2 * (n : Int)))) 18 (mo A 0 13) (hh * i - (n : Int) * (hh * i / (2 * (n : Int))))) 19 (mo A 0 13) ((hh - w) * i / 2)) 20 (mo A 0 13) (-1)) 0 13 (mo A 0 13 + 1)) 13 j = if j = mo A 0 13 then hh else mo A 13 j := fun j => by
      rw [UA_c (by decide), UA_c (by decide), UA_c (by decide), UA_c (by decide), UA_c (by decide), UA_c (by decide), UA_c (by decide), UA_c (by decide)]
      by_cases z : j = mo A 0 13
      · rw [if_pos z, z, UA_eq]
      · rw [if_neg z, UA_j z, UA_c (by decide), UA_c (by decide)]
    have m14 : ∀ j : Int, (UA (UA (UA (UA (UA (UA (UA (UA (UA (UA (UA (mo A) 11 (mo A 0 13) x1) 12 (mo A 0 13) i) 13 (mo A 0 13) hh) 14 (mo A 0 13) w) 15 (mo A 0 13) (n : Int)) 16 (mo A 0 13) x4) 17 (mo A 0 13) (hh * i / (2 * (n : Int)))) 18 (mo A 0 13) (hh * i - (n : Int) * (hh * i / (2 * (n : Int))))) 19 (mo A 0 13) ((hh - w) * i / 2)) 20 (mo A 0 13) (-1)) 0 13 (mo A 0 13 + 1)) 14 j = if j = mo A 0 13 then w else mo A 14 j := fun j => by
      rw [UA_c (by decide), UA_c (by decide), UA_c (by decide), UA_c (by decide), UA_c (by decide), UA_c (by decide), UA_c (by decide)]
      by_cases z : j = mo A 0 13
      · rw [if_pos z, z, UA_eq]
      · rw [if_neg z, UA_j z, UA_c (by decide), UA_c (by decide), UA_c (by decide)]
    have m15 : ∀ j : Int, (UA (UA (UA (UA (UA (UA (UA (UA (UA (UA (UA (mo A) 11 (mo A 0 13) x1) 12 (mo A 0 13) i) 13 (mo A 0 13) hh) 14 (mo A 0 13) w) 15 (mo A 0 13) (n : Int)) 16 (mo A 0 13) x4) 17 (mo A 0 13) (hh * i / (2 * (n : Int)))) 18 (mo A 0 13) (hh * i - (n : Int) * (hh * i / (2 * (n : Int))))) 19 (mo A 0 13) ((hh - w) * i / 2)) 20 (mo A 0 13) (-1)) 0 13 (mo A 0 13 + 1)) 15 j = if j = mo A 0 13 then (n : Int) else mo A 15 j := fun j => by
      rw [UA_c (by decide), UA_c (by decide), UA_c (by decide), UA_c (by decide), UA_c (by decide), UA_c (by decide)]
      by_cases z : j = mo A 0 13
      · rw [if_pos z, z, UA_eq]
      · rw [if_neg z, UA_j z, UA_c (by decide), UA_c (by decide), UA_c (by decide), UA_c (by decide)]
    have m16 : ∀ j : Int, (UA (UA (UA (UA (UA (UA (UA (UA (UA (UA (UA (mo A) 11 (mo A 0 13) x1) 12 (mo A 0 13) i) 13 (mo A 0 13) hh) 14 (mo A 0 13) w) 15 (mo A 0 13) (n : Int)) 16 (mo A 0 13) x4) 17 (mo A 0 13) (hh * i / (2 * (n : Int)))) 18 (mo A 0 13) (hh * i - (n : Int) * (hh * i / (2 * (n : Int))))) 19 (mo A 0 13) ((hh - w) * i / 2)) 20 (mo A 0 13) (-1)) 0 13 (mo A 0 13 + 1)) 16 j = if j = mo A 0 13 then x4 else mo A 16 j := fun j => by
      rw [UA_c (by decide), UA_c (by decide), UA_c (by decide), UA_c (by decide), UA_c (by decide)]
      by_cases z : j = mo A 0 13
      · rw [if_pos z, z, UA_eq]
      · rw [if_neg z, UA_j z, UA_c (by decide), UA_c (by decide), UA_c (by decide), UA_c (by decide), UA_c (by decide)]
    have m17 : ∀ j : Int, (UA (UA (UA (UA (UA (UA (UA (UA (UA (UA (UA (mo A) 11 (mo A 0 13) x1) 12 (mo A 0 13) i) 13 (mo A 0 13) hh) 14 (mo A 0 13) w) 15 (mo A 0 13) (n : Int)) 16 (mo A 0 13) x4) 17 (mo A 0 13) (hh * i / (2 * (n : Int)))) 18 (mo A 0 13) (hh * i - (n : Int) * (hh * i / (2 * (n : Int))))) 19 (mo A 0 13) ((hh - w) * i / 2)) 20 (mo A 0 13) (-1)) 0 13 (mo A 0 13 + 1)) 17 j = if j = mo A 0 13 then hh * i / (2 * (n : Int)) else mo A 17 j := fun j => by
      rw [UA_c (by decide), UA_c (by decide), UA_c (by decide), UA_c (by decide)]
      by_cases z : j = mo A 0 13
      · rw [if_pos z, z, UA_eq]
      · rw [if_neg z, UA_j z, UA_c (by decide), UA_c (by decide), UA_c (by decide), UA_c (by decide), UA_c (by decide), UA_c (by decide)]
    have m18 : ∀ j : Int, (UA (UA (UA (UA (UA (UA (UA (UA (UA (UA (UA (mo A) 11 (mo A 0 13) x1) 12 (mo A 0 13) i) 13 (mo A 0 13) hh) 14 (mo A 0 13) w) 15 (mo A 0 13) (n : Int)) 16 (mo A 0 13) x4) 17 (mo A 0 13) (hh * i / (2 * (n : Int)))) 18 (mo A 0 13) (hh * i - (n : Int) * (hh * i / (2 * (n : Int))))) 19 (mo A 0 13) ((hh - w) * i / 2)) 20 (mo A 0 13) (-1)) 0 13 (mo A 0 13 + 1)) 18 j = if j = mo A 0 13 then hh * i - (n : Int) * (hh * i / (2 * (n : Int))) else mo A 18 j := fun j => by
      rw [UA_c (by decide), UA_c (by decide), UA_c (by decide)]
      by_cases z : j = mo A 0 13
      · rw [if_pos z, z, UA_eq]
      · rw [if_neg z, UA_j z, UA_c (by decide), UA_c (by decide), UA_c (by decide), UA_c (by decide), UA_c (by decide), UA_c (by decide), UA_c (by decide)]
    have m19 : ∀ j : Int, (UA (UA (UA (UA (UA (UA (UA (UA (UA (UA (UA (mo A) 11 (mo A 0 13) x1) 12 (mo A 0 13) i) 13 (mo A 0 13) hh) 14 (mo A 0 13) w) 15 (mo A 0 13) (n : Int)) 16 (mo A 0 13) x4) 17 (mo A 0 13) (hh * i / (2 * (n : Int)))) 18 (mo A 0 13) (hh * i - (n : Int) * (hh * i / (2 * (n : Int))))) 19 (mo A 0 13) ((hh - w) * i / 2)) 20 (mo A 0 13) (-1)) 0 13 (mo A 0 13 + 1)) 19 j = if j = mo A 0 13 then (hh - w) * i / 2 else mo A 19 j := fun j => by
      rw [UA_c (by decide), UA_c (by decide)]
      by_cases z : j = mo A 0 13
      · rw [if_pos z, z, UA_eq]
      · rw [if_neg z, UA_j z, UA_c (by decide), UA_c (by decide), UA_c (by decide), UA_c (by decide), UA_c (by decide), UA_c (by decide), UA_c (by decide), UA_c (by decide)]
    have m20 : ∀ j : Int, (UA (UA (UA (UA (UA (UA (UA (UA (UA (UA (UA (mo A) 11 (mo A 0 13) x1) 12 (mo A 0 13) i) 13 (mo A 0 13) hh) 14 (mo A 0 13) w) 15 (mo A 0 13) (n : Int)) 16 (mo A 0 13) x4) 17 (mo A 0 13) (hh * i / (2 * (n : Int)))) 18 (mo A 0 13) (hh * i - (n : Int) * (hh * i / (2 * (n : Int))))) 19 (mo A 0 13) ((hh - w) * i / 2)) 20 (mo A 0 13) (-1)) 0 13 (mo A 0 13 + 1)) 20 j = if j = mo A 0 13 then -1 else mo A 20 j := fun j => by
      rw [UA_c (by decide)]
      by_cases z : j = mo A 0 13
      · rw [if_pos z, z, UA_eq]
      · rw [if_neg z, UA_j z, UA_c (by decide), UA_c (by decide), UA_c (by decide), UA_c (by decide), UA_c (by decide), UA_c (by decide), UA_c (by decide), UA_c (by decide), UA_c (by decide)]

    have hm := fun h3 => hm W2' W2 (UP P2 18 (A 0 12) (a + 1)) T3.1 h3 (UA A2 0 12 (A 0 12 + 1))
    rw [e1, e2] at hm
    have eK0 : ∀ k : Int, ¬ k = mo A 0 13 → eqK (mo A) (UA (UA (UA (UA (UA (UA (UA (UA (UA (UA (UA (mo A) 11 (mo A 0 13) x1) 12 (mo A 0 13) i) 13 (mo A 0 13) hh) 14 (mo A 0 13) w) 15 (mo A 0 13) (n : Int)) 16 (mo A 0 13) x4) 17 (mo A 0 13) (hh * i / (2 * (n : Int)))) 18 (mo A 0 13) (hh * i - (n : Int) * (hh * i / (2 * (n : Int))))) 19 (mo A 0 13) ((hh - w) * i / 2)) 20 (mo A 0 13) (-1)) 0 13 (mo A 0 13 + 1)) k := fun k z => ⟨by rw [m11, if_neg z], by rw [m12, if_neg z], by rw [m13, if_neg z], by rw [m14, if_neg z], by rw [m15, if_neg z], by rw [m16, if_neg z], by rw [m17, if_neg z], by rw [m18, if_neg z], by rw [m19, if_neg z]⟩
    have kok : KiltOK (UA (UA (UA (UA (UA (UA (UA (UA (UA (UA (UA (mo A) 11 (mo A 0 13) x1) 12 (mo A 0 13) i) 13 (mo A 0 13) hh) 14 (mo A 0 13) w) 15 (mo A 0 13) (n : Int)) 16 (mo A 0 13) x4) 17 (mo A 0 13) (hh * i / (2 * (n : Int)))) 18 (mo A 0 13) (hh * i - (n : Int) * (hh * i / (2 * (n : Int))))) 19 (mo A 0 13) ((hh - w) * i / 2)) 20 (mo A 0 13) (-1)) 0 13 (mo A 0 13 + 1)) (mo A 0 13) := by
      unfold KiltOK
      rw [m11, m12, m13, m14, m15, m16, m17, m18, m19, m20]
      simp only [if_pos rfl]
      exact ⟨q1, q2, q3, q5, q4, q6, rfl, rfl, rfl, q7, by rw [if_pos trivial]; decide⟩
    have kob := kok.b
    rw [m17, if_pos rfl, m18, if_pos rfl, m19, if_pos rfl] at kob
    have rM : RG (UA (UA (UA (UA (UA (UA (UA (UA (UA (UA (UA (mo A) 11 (mo A 0 13) x1) 12 (mo A 0 13) i) 13 (mo A 0 13) hh) 14 (mo A 0 13) w) 15 (mo A 0 13) (n : Int)) 16 (mo A 0 13) x4) 17 (mo A 0 13) (hh * i / (2 * (n : Int)))) 18 (mo A 0 13) (hh * i - (n : Int) * (hh * i / (2 * (n : Int))))) 19 (mo A 0 13) ((hh - w) * i / 2)) 20 (mo A 0 13) (-1)) 0 13 (mo A 0 13 + 1)) := by
      refine rg_UA (rg_UA (rg_UA (rg_UA (rg_UA (rg_UA (rg_UA (rg_UA (rg_UA (rg_UA (rg_UA (rg_mo hR) rr.1) rs.1) rs.2.1) rs.2.2.2) rs.2.2.1) rr.2.2.2) ⟨by omega, by omega⟩) ⟨by omega, by omega⟩) ⟨by omega, by omega⟩) (by decide)) ⟨by omega, by omega⟩
    generalize hM : (UA (UA (UA (UA (UA (UA (UA (UA (UA (UA (UA (mo A) 11 (mo A 0 13) x1) 12 (mo A 0 13) i) 13 (mo A 0 13) hh) 14 (mo A 0 13) w) 15 (mo A 0 13) (n : Int)) 16 (mo A 0 13) x4) 17 (mo A 0 13) (hh * i / (2 * (n : Int)))) 18 (mo A 0 13) (hh * i - (n : Int) * (hh * i / (2 * (n : Int))))) 19 (mo A 0 13) ((hh - w) * i / 2)) 20 (mo A 0 13) (-1)) 0 13 (mo A 0 13 + 1)) = M' at *
    have eS : ∀ s : Int, eqS (mo A) M' s := fun s => eqS_r (fun c hc => by simp at hc; exact m c (by omega) (by omega)) s
    have eB : ∀ s : Int, eqB (mo A) M' s := fun s => eqB_r (fun c hc => by simp at hc; exact m c (by omega) (by omega)) s
    have eT : ∀ s : Int, eqT (mo A) M' s := fun s => eqT_r (fun c hc => by simp at hc; exact m c (by omega) (by omega)) s
    have eH : ∀ s : Int, eqH (mo A) M' s := fun s => eqH_r (fun c hc => by simp at hc; exact m c (by omega) (by omega)) s
    have eL : ∀ k : Int, ¬ k = mo A 0 13 → eqL (mo A) M' k := fun k z => ⟨by rw [m20, if_neg z], by rw [m 21 (by decide) (by decide)], by rw [m 22 (by decide) (by decide)], by rw [m 23 (by decide) (by decide)], by rw [m 24 (by decide) (by decide)], by rw [m 25 (by decide) (by decide)], by rw [m 28 (by decide) (by decide)], fun p _ _ => by rw [m 26 (by decide) (by decide), m 27 (by decide) (by decide)]; exact ⟨rfl, rfl⟩⟩
    have hN : ∀ c, (c = a ∨ c = a + 1 ∨ c = a + 1 + 1 ∨ c = a + 1 + 2) → gK W c = 0 ∧ 100 ≤ c ∧ c < 500 := fun c z => by
      rcases z with e | e | e | e <;> subst e
      · exact ⟨f0, by omega, by omega⟩
      · exact ⟨f1, by omega, by omega⟩
      · exact ⟨f2, by omega, by omega⟩
      · exact ⟨f3, by omega, by omega⟩
    have kW' : ∀ c, ¬ (c = a ∨ c = a + 1 ∨ c = a + 1 + 1 ∨ c = a + 1 + 2) → gK W2' c = gK W c ∧ gL W2' c = gL W c ∧ lo W2' c = lo W c := fun c z => kW c (fun e => z (by omega)) (fun e => z (by omega)) (fun e => z (by omega)) (fun e => z (by omega))
    have eP' : ∀ c, ¬ c = 18 → ¬ (c = a ∨ c = a + 1 ∨ c = a + 1 + 1 ∨ c = a + 1 + 2) → UP P2 18 (A 0 12) (a + 1) c = P c := fun c z1 z => by rw [UP_n z1]; exact P2n c (fun e => z (by omega)) (fun e => z (by omega)) (fun e => z (by omega)) (fun e => z (by omega))
    have eA' : ∀ c, ¬ c = 0 → ¬ (c = a ∨ c = a + 1 ∨ c = a + 1 + 1 ∨ c = a + 1 + 2) → UA A2 0 12 (A 0 12 + 1) c = A c := fun c z1 z => by rw [UA_n z1]; exact A2n c (fun e => z (by omega)) (fun e => z (by omega)) (fun e => z (by omega)) (fun e => z (by omega))
    have a0 : ∀ j : Int, ¬ j = 12 → UA A2 0 12 (A 0 12 + 1) 0 j = A 0 j := fun j z => by rw [UA_j z, A20]
    obtain ⟨c1, c2, c3, c4, c5, c6, c7, c8⟩ := hr.old (W' := W2') (P' := UP P2 18 (A 0 12) (a + 1)) (A' := UA A2 0 12 (A 0 12 + 1)) (M' := M') (N := fun c => c = a ∨ c = a + 1 ∨ c = a + 1 + 1 ∨ c = a + 1 + 2) hN (fun c z => kW' c z) (fun c z1 z2 => eP' c (by omega) z2) (fun c z1 z2 => eA' c (by omega) z2) (fun s _ _ => eS s) (fun b _ _ => eB b) (fun k k0 k1 => ⟨eK0 k (by omega), eL k (by omega)⟩) (fun t _ _ => eT t) (fun s _ _ => eH s) (by rw [m0 2 (by decide)]; exact Int.le_refl _) (fun t _ _ => by rw [eP' 19 (by decide) (by omega)])
    have k1000 := kW' 1000 (by omega)
    have k540 := kW' 540 (by omega)
    refine stp_m2 hx (mo_n fun c hc => eA' c (by omega) (by omega)) (by have z := hm c8; rw [k1000.2.2] at z ⊢; exact z) W2 (rg_UA R2 ⟨by omega, by omega⟩) rM T3 G2 ?_ ⟨⟨(kW' 0 (by omega)).2.2, k1000.2.2, k540.2.2⟩, ⟨k540.1, k540.2.1⟩, eA' 540 (by decide) (by omega)⟩ ?_
    · refine ⟨⟨⟨by rw [a0 10 (by decide)]; exact hcs.1, by rw [a0 11 (by decide)]; exact hcs.2.1, by rw [UA_eq]; omega⟩, ?_, ?_, fun b z0 z1 => ?_, ?_⟩, ?_, ?_, fun s s0 s1 => c1 s s0 (by rw [m0 2 (by decide)] at s1; exact s1), fun b z0 z1 => c2 b z0 (by rw [m0 8 (by decide)] at z1; exact z1), ?_, fun k k0 k1 => ?_, fun t t0 t1 => c4 t t0 (by rw [m0 42 (by decide)] at t1; exact t1), c5, ?_, ?_, c7, c8, ⟨?_, ?_, ⟨?_, fun b z0 z1 => ?_⟩, ?_, ?_, ?_⟩⟩
      · rw [a0 10 (by decide), eP' 16 (by decide) (by omega)]; exact hr.cto.2.1
      · rw [a0 11 (by decide), eP' 17 (by decide) (by omega)]; exact hr.cto.2.2.1
      · rw [UA_eq] at z1
        by_cases z : b = A 0 12
        · rw [z, UP_e, ha]
        · rw [UP_j z, P2n 18 (by omega) (by omega) (by omega) (by omega)]; exact hr.cto.2.2.2.1 b z0 (by omega)
      · rw [eP' 20 (by decide) (by omega)]; exact hr.cto.2.2.2.2
      · unfold RCn
        rw [a0 10 (by decide), a0 11 (by decide), UA_eq, a0 13 (by decide), a0 14 (by decide), eA' 1 (by decide) (by omega), m0 2 (by decide), m0 8 (by decide), m013, m0 42 (by decide), m0 43 (by decide), m0 1 (by decide)]
        exact ⟨hn1, hn2, by omega, hn4, hn5, hn6⟩
      · rw [m 1 (by decide) (by decide)]
        exact hr.tp.same (eA' 1 (by decide) (by omega)) (eA' 2 (by decide) (by omega))
      · exact hr.wbS (N := fun c => c = a ∨ c = a + 1 ∨ c = a + 1 + 1 ∨ c = a + 1 + 2) hN (fun c z => ⟨(kW' c z).1, (kW' c z).2.1⟩) (fun c z1 z2 => eP' c (by omega) z2) (fun c z1 z2 => eA' c (by omega) z2) (by rw [eP' 0 (by decide) (by omega)]) (m0 2 (by decide))
      · rw [m013] at k1
        by_cases z : k = mo A 0 13
        · have zb : k = A 0 12 := by omega
          subst zb
          have u : ∀ j : Int, UA A2 0 12 (A 0 12 + 1) a j = A2 a j := fun j => by rw [UA_n (by omega)]
          have uz : ∀ c, c = a + 1 ∨ c = a + 1 + 1 ∨ c = a + 1 + 2 → ∀ j : Int, UA A2 0 12 (A 0 12 + 1) c j = 0 := fun c hc j => by rw [UA_n (by omega)]; exact A2z c hc j
          have up : ∀ c, c = a ∨ c = a + 1 → UP P2 18 (A 0 12) (a + 1) c = P2 c := fun c hc => UP_n (by omega)
          unfold RKi RKn RKl StB
          rw [← ha]
          refine ⟨⟨ka, by rw [up a (Or.inl rfl)]; exact p10, ⟨⟨ka1, ka2, ka3⟩, by rw [up (a + 1) (Or.inr rfl)]; exact ⟨p20, p21⟩, by rw [la2, u, b4], by rw [la3, u, b4], by rw [u, b4]; omega⟩, by rw [u, b4]; exact q4, by rw [u, b8']; exact kob.2.2, by rw [u, b9]; exact bI_01, by rw [u, b6]; exact kob.1, by rw [u, b7]; exact kob.2.1, by rw [u, b0]; exact q1, by rw [u, b13]; exact ⟨by decide, by decide⟩, by rw [u, b14]; exact Or.inl rfl⟩, fun j => ?_, ⟨by rw [u, b0, m11, if_pos z], by rw [u, b1, m12, if_pos z], by rw [u, b2, m13, if_pos z], by rw [u, b3, m14, if_pos z], by rw [u, b4, m15, if_pos z], by rw [u, b5, m16, if_pos z], by rw [u, b6, m17, if_pos z], by rw [u, b7, m18, if_pos z], by rw [u, b8', m19, if_pos z], ?_, by rw [u, b12, m20, if_pos z]⟩, fun _ => ⟨by rw [up a (Or.inl rfl)]; exact p11, by rw [m20, if_pos z], by rw [u, b13], by rw [u, b14]⟩, fun y => ?_, by rw [u, b15]; exact Or.inl rfl⟩
          · unfold k_st
            split
            · rw [uz _ (Or.inr (Or.inl rfl))]; decide
            · rw [uz _ (Or.inl rfl)]; decide
          · rw [u, b9, bI_0]
            unfold strd
            rw [m11, if_pos z]
            constructor <;> intro y <;> omega
          · rw [m20, if_pos z] at y; omega
        · exact c3 k k0 (by omega)
      · rw [c6, m 41 (by decide) (by decide)]; exact hr.cu
      · obtain ⟨w1, w2, w3, w4, w5⟩ := hr.fr
        unfold RFr
        rw [m0 2 (by decide), m013, m0 8 (by decide), m0 42 (by decide)]
        refine ⟨fun c z1 z2 => ?_, fun c z1 z2 => ?_, fun z0 c z1 z2 => ?_, fun c z1 z2 => ?_, fun c z1 z2 => ?_⟩
        · rw [(kW' c (by omega)).1]; exact w1 c z1 z2
        · rw [(kW' c (by omega)).1]; exact w2 c z1 z2
        · rw [(kW' c (by omega)).1]; exact w3 z0 c z1 z2
        · rw [(kW' c (by omega)).1]; exact w4 c (by omega) z2
        · rw [(kW' c (by omega)).1]; exact w5 c z1 z2
      · exact oS0.sm (fun s _ _ => eS s) (m0 2 (by decide))
      · exact oB0.sm (fun s _ _ => eB s) (m0 8 (by decide)) (m0 2 (by decide))
      · rw [m013]; omega
      · rw [m013] at z1
        by_cases z : b = mo A 0 13
        · subst z
          refine ⟨kok, fun y => ?_⟩
          rw [m20, if_pos rfl] at y; omega
        · obtain ⟨w1, w2⟩ := oK0.2 b z0 (by omega)
          exact ⟨w1.same (eK0 b z) (eL b z).1, w2.same w1 (eK0 b z) (eL b z) (by rw [m0 8 (by decide)]; exact Int.le_refl _)⟩
      · exact oH0.same (m 43 (by decide) (by decide)) (m 44 (by decide) (by decide))
      · rw [m0 42 (by decide)]; exact oT0
      · rw [m0 42 (by decide), m0 43 (by decide)]; exact oR0
    · rw [gsz2.1, gsz2.2]; omega
  · have nq : ¬ (0 ≤ x1 ∧ x1 ≤ 5) ∨ ¬ (0 ≤ x4 ∧ x4 ≤ 9) ∨ ¬ ((4 ≤ i ∧ i ≤ 40) ∧ (20 ≤ hh ∧ hh ≤ 60) ∧ (4 ≤ n0 ∧ n0 ≤ 24) ∧ (20 ≤ w ∧ w ≤ hh) ∧ (hh - w) * i / 2 ≤ n0 * (hh * i / (2 * n0) - 1)) := by
      by_cases z1 : 0 ≤ x1 ∧ x1 ≤ 5
      · by_cases z2 : 0 ≤ x4 ∧ x4 ≤ 9
        · exact Or.inr (Or.inr (fun z => q ⟨z1, z.1, z.2.1, z.2.2.1, z.2.2.2.1, z2, z.2.2.2.2⟩))
        · exact Or.inr (Or.inl z2)
      · exact Or.inl z1
    have hx : xev xT 190 57 [.ref (lo W 0), .int (iz x1), .int (iz x2), .int (iz x3), .int (iz x4)] (Wm W A P) (some (.int (iz (-2)))) (Wm W A P) := by
      refine xev_i (D := 3) (by decide) (Nat.le_of_ble_eq_true rfl) (fun d hd => V0 d hd _ ⟨fun _ => ⟨rfl, rfl⟩, fun y1 => ⟨fun _ => ⟨rfl, rfl⟩, fun y2 => ⟨fun _ => ⟨rfl, rfl⟩, fun y3 => ⟨fun _ => ⟨rfl, rfl⟩, fun y4 => ⟨fun _ => ⟨rfl, rfl⟩, fun y5 => ?_⟩⟩⟩⟩⟩)
      rcases nq with z | z | z
      · exact absurd (by omega) z
      · exact absurd (by omega) z
      · exact absurd y5 z
    have hm := hm W hW P hT.1 hr.mod A
    have e1 : m_kilt_r (mo A) x1 i hh n0 w x4 = -2 := by unfold m_kilt_r; rw [if_neg q]
    have e2 : m_kilt_n (mo A) x1 i hh n0 w x4 = mo A := by unfold m_kilt_n; rw [if_neg (fun z => q z.1)]
    rw [e1, e2] at hm
    exact stp_ro ⟨hW, hR, hT, hG, hr⟩ hx hm
