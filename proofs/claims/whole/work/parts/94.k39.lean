theorem kls_nn {n T p : Int} (hp : 0 ≤ p ∧ 0 ≤ T) (hn : 0 < n) : 0 ≤ kls n T p := by
  have h1 : 0 ≤ p * T := Int.mul_nonneg hp.1 hp.2
  have h2 : (p + 1) * T = p * T + T := by rw [Int.add_mul, Int.one_mul]
  unfold kls
  rw [tdiv_pos h1, tdiv_pos (by rw [h2]; omega), h2]
  have := Int.ediv_le_ediv hn (show p * T ≤ p * T + T by omega)
  omega
theorem kls_m {A M : Nat → Int → Int} {k p : Int} {a : Nat} (h4 : A a 4 = M 15 k) (h8 : A a 8 = M 19 k) : kls (A a 4) (A a 8) p = m_loses M k p := by unfold kls m_loses; rw [h4, h8]
theorem kwd_m {A M : Nat → Int → Int} {k t : Int} {a : Nat} (h4 : A a 4 = M 15 k) (h8 : A a 8 = M 19 k) (h13 : A a 13 = M 25 k) : k_wd A a t = m_wd M k t := by
  funext p
  unfold k_wd m_wd
  rw [kls_m h4 h8, h13]
theorem V87_0 {d : Nat} (hd : 2 ≤ d) {Q : Option Value → xM → Prop} {W : gW} (hW : HW W) {A : Nat → Int → Int} {P : Nat → Int → Nat} (hR : RG A) (hT : Stat W P) (hG : GL W) {x1 x2 x3 : Int} (rr : Rg x1 ∧ Rg x2 ∧ Rg x3) (h : (CtO P A) ∧ (((¬ (0 ≤ x1 ∧ x1 < A 0 12)) → Q (some (.int (iz (-2)))) (Wm W A P)) ∧ (¬ (¬ (0 ≤ x1 ∧ x1 < A 0 12)) → (((x2 < 0) → Q (some (.int (iz (-2)))) (Wm W A P)) ∧ (¬ (x2 < 0) → (gK W (qK x1) = 3) ∧ ((((A (qK x1) 4) ≤ x2) → Q (some (.int (iz (-2)))) (Wm W A P)) ∧ (¬ ((A (qK x1) 4) ≤ x2) → (((x3 < 0) → Q (some (.int (iz (-2)))) (Wm W A P)) ∧ (¬ (x3 < 0) → (((x3 ≤ 3) → (((x3 = 2) → (OKi W P A (qK x1)) ∧ (0 ≤ x2 ∧ x2 ≤ 24) ∧ Q (some (.int (iz (kls (A (qK x1) 4) (A (qK x1) 8) x2)))) (Wm W A P)) ∧ (¬ (x3 = 2) → (((P (qK x1) 11 = 0) → Q (some (.int (iz (-3)))) (Wm W A P)) ∧ (¬ (P (qK x1) 11 = 0) → (((x3 = 0) → (P (qK x1) 10 = ((qK x1) + 1) + 1) ∧ (OLg W P ((qK x1) + 1) (A (qK x1) 4)) ∧ (gK W ((qK x1) + 1) = 5) ∧ Q (some (.int (iz (k_st A ((qK x1) + 1) (A (qK x1) 4) x2)))) (Wm W A P)) ∧ (¬ (x3 = 0) → ((x3 = 1) → (P (qK x1) 10 = ((qK x1) + 1) + 1) ∧ (OLg W P ((qK x1) + 1) (A (qK x1) 4)) ∧ (1 ≤ (A (qK x1) 4) ∧ (A (qK x1) 4) ≤ 24) ∧ (gK W ((qK x1) + 1) = 5) ∧ Q (some (.int (iz (if 0 ≤ x2 ∧ x2 < (A (qK x1) 4) - 1 then A (((qK x1) + 1) + 2) x2 else -1)))) (Wm W A P)) ∧ (¬ (x3 = 1) → (P (qK x1) 10 = ((qK x1) + 1) + 1) ∧ (OLg W P ((qK x1) + 1) (A (qK x1) 4)) ∧ (Rg (x2 + 1)) ∧ (gK W ((qK x1) + 1) = 5) ∧ (Rg ((k_st A ((qK x1) + 1) (A (qK x1) 4) (x2 + 1)) - (k_st A ((qK x1) + 1) (A (qK x1) 4) x2))) ∧ (Rg (((k_st A ((qK x1) + 1) (A (qK x1) 4) (x2 + 1)) - (k_st A ((qK x1) + 1) (A (qK x1) 4) x2)) - (A (qK x1) 13))) ∧ Q (some (.int (iz (((k_st A ((qK x1) + 1) (A (qK x1) 4) (x2 + 1)) - (k_st A ((qK x1) + 1) (A (qK x1) 4) x2)) - (A (qK x1) 13))))) (Wm W A P))))))))) ∧ (¬ (x3 ≤ 3) → Q (some (.int (iz (-2)))) (Wm W A P)))))))))))) : wpE (xT 87) (xev xT d) Q (0, [(0, .ref (lo W 0)), (1, .int (iz x1)), (2, .int (iz x2)), (3, .int (iz x3))], [], Wm W A P) := by
  refine p_ald (cc3 c87_0) rfl ?_
  refine p_ild (cc3 c87_1) rfl ?_
  obtain ⟨g1, h⟩ := h
  have he := S66 (Nat.le_trans (by decide) hd) hW hR hT hG rr.1 g1
  refine nul_c (c := ¬ (0 ≤ x1 ∧ x1 < A 0 12)) he (fun c he => ?_) (fun c he => ?_) <;> refine p_callV (cc3 c87_2) (Nat.le_of_ble_eq_true rfl) rfl rfl (Nat.le_of_ble_eq_true rfl) (wk_kd hW (by decide) (st_k hT 0 12 (by decide))) he ?_
  · have h := h.1 c
    refine p_astN (ls' := [(4, .null), (0, .ref (lo W 0)), (1, .int (iz x1)), (2, .int (iz x2)), (3, .int (iz x3))]) (cc3 c87_5) (by decide) rfl ?_
    refine p_aldN (cc3 c87_7) rfl ?_
    refine p_ifnN (cc3 c87_9) ?_
    refine p_lc (ls' := []) c87_34 rfl rfl ?_
    refine i_push (n := (-2)) (cct c87_34 rfl) zl_m2 ?_
    exact p_ri (cc3 c87_36) trivial h
  · have h := h.2 c
    refine p_ast (ls' := [(4, .ref (lo W (qK x1))), (0, .ref (lo W 0)), (1, .int (iz x1)), (2, .int (iz x2)), (3, .int (iz x3))]) (cc3 c87_5) (by decide) rfl ?_
    refine p_ald (cc3 c87_7) rfl ?_
    refine p_ifnR (cc3 c87_9) ?_
    refine p_ild (cc3 c87_12) rfl ?_
    refine i_if (c' := x2 < 0) (cc3 c87_13) (c_lt0 rr.2.1) (fun c => ?_) (fun c => ?_)
    · have h := h.1 c
      refine p_lc (ls' := []) c87_34 rfl rfl ?_
      refine i_push (n := (-2)) (cct c87_34 rfl) zl_m2 ?_
      exact p_ri (cc3 c87_36) trivial h
    · have h := h.2 c
      refine p_ild (cc3 c87_16) rfl ?_
      refine p_ald (cc3 c87_17) rfl ?_
      obtain ⟨g2, h⟩ := h
      refine w_geti hW (v := A (qK x1) 4) (cc3 c87_19) g2 (ji := 4) rfl rfl ?_
      refine i_icmp (c' := (A (qK x1) 4) ≤ x2) (cc3 c87_22) (iz_le (hR (qK x1) 4) rr.2.1) (fun c => ?_) (fun c => ?_)
      · have h := h.1 c
        refine p_lc (ls' := []) c87_34 rfl rfl ?_
        refine i_push (n := (-2)) (cct c87_34 rfl) zl_m2 ?_
        exact p_ri (cc3 c87_36) trivial h
      · have h := h.2 c
        refine p_ild (cc3 c87_25) rfl ?_
        refine i_if (c' := x3 < 0) (cc3 c87_26) (c_lt0 rr.2.2) (fun c => ?_) (fun c => ?_)
        · have h := h.1 c
          refine p_lc (ls' := []) c87_34 rfl rfl ?_
          refine i_push (n := (-2)) (cct c87_34 rfl) zl_m2 ?_
          exact p_ri (cc3 c87_36) trivial h
        · have h := h.2 c
          refine p_ild (cc3 c87_29) rfl ?_
          refine i_push (n := 3) (cc3 c87_30) zl_3 ?_
          refine i_icmp (c' := x3 ≤ 3) (cc3 c87_31) (iz_le rr.2.2 (by decide : Rg (3 : Int))) (fun c => ?_) (fun c => ?_)
          · have h := h.1 c
            refine p_ild (cc3 c87_37) rfl ?_
            refine i_push (n := 2) (cc3 c87_38) zl_2 ?_
            refine i_icmp (c' := x3 = 2) (cc3 c87_39) (iz_inj rr.2.2 (by decide : Rg (2 : Int))) (fun c => ?_) (fun c => ?_)
            · have h := h.1 c
              refine p_ald (cc3 c87_42) rfl ?_
              refine p_ild (cc3 c87_44) rfl ?_
              obtain ⟨g3, h⟩ := h
              obtain ⟨g4, h⟩ := h
              refine p_callV (cc3 c87_45) (Nat.le_of_ble_eq_true rfl) rfl rfl (Nat.le_of_ble_eq_true rfl) (wk_kd hW (by decide) g2) (S88 (Nat.le_trans (by decide) hd) hW hR hT hG rr.2.1 ⟨g3, g4⟩) ?_
              exact p_ri (cc3 c87_48) trivial h
            · have h := h.2 c
              refine p_ald (cc3 c87_49) rfl ?_
              refine w_getz hW hT.1 (cc3 c87_51) g2 (ji := 11) rfl ?_ ?_
              · intro cz3
                have h := h.1 cz3
                refine p_ifnN (cc3 c87_54) ?_
                refine i_push (n := (-3)) (cc3 c87_57) zl_m3 ?_
                exact p_ri (cc3 c87_59) trivial h
              · intro cz3
                have h := h.2 cz3
                refine p_ifnR (cc3 c87_54) ?_
                refine p_ild (cc3 c87_60) rfl ?_
                refine (fun _ : Rg x3 => p_sw (cc3 c87_61) ?_) rr.2.2
                refine sw_c (n := 0) rr.2.2 zl_0 (by decide) (fun c => ?_) (fun c => ?_)
                · have h := h.1 c
                  refine p_ald (cc3 c87_88) rfl ?_
                  obtain ⟨g4, h⟩ := h
                  refine w_getp hW hT.1 (b := (qK x1) + 1) (cc3 c87_90) g2 (ji := 10) rfl g4 ?_
                  refine p_ild (cc3 c87_93) rfl ?_
                  obtain ⟨g5, h⟩ := h
                  obtain ⟨g6, h⟩ := h
                  refine p_callV (cc3 c87_94) (Nat.le_of_ble_eq_true rfl) rfl rfl (Nat.le_of_ble_eq_true rfl) (wk_kd hW (by decide) g6) (S89 (Nat.le_trans (by decide) hd) hW hR hT hG (A (qK x1) 4) rr.2.1 g5) ?_
                  exact p_ri (cc3 c87_97) trivial h
                · have h := h.2 c
                  refine sw_c (n := 1) rr.2.2 zl_1 (by decide) (fun c => ?_) (fun c => ?_)
                  · have h := h.1 c
                    refine p_ald (cc3 c87_98) rfl ?_
                    obtain ⟨g4, h⟩ := h
                    refine w_getp hW hT.1 (b := (qK x1) + 1) (cc3 c87_100) g2 (ji := 10) rfl g4 ?_
                    refine p_ild (cc3 c87_103) rfl ?_
                    obtain ⟨g5, h⟩ := h
                    obtain ⟨g6, h⟩ := h
                    obtain ⟨g7, h⟩ := h
                    refine p_callV (cc3 c87_104) (Nat.le_of_ble_eq_true rfl) rfl rfl (Nat.le_of_ble_eq_true rfl) (wk_kd hW (by decide) g7) (S90 (Nat.le_trans (by decide) hd) hW hR hT hG (A (qK x1) 4) rr.2.1 ⟨g5, g6⟩) ?_
                    exact p_ri (cc3 c87_107) trivial h
                  · have h := h.2 c
                    refine sw_d ?_
                    refine p_ald (cc3 c87_108) rfl ?_
                    obtain ⟨g4, h⟩ := h
                    refine w_getp hW hT.1 (b := (qK x1) + 1) (cc3 c87_110) g2 (ji := 10) rfl g4 ?_
                    refine p_ild (cc3 c87_113) rfl ?_
                    obtain ⟨g5, h⟩ := h
                    obtain ⟨g6, h⟩ := h
                    obtain ⟨g7, h⟩ := h
                    refine p_callV (cc3 c87_114) (Nat.le_of_ble_eq_true rfl) rfl rfl (Nat.le_of_ble_eq_true rfl) (wk_kd hW (by decide) g7) (S91 (Nat.le_trans (by decide) hd) hW hR hT hG (A (qK x1) 4) rr.2.1 ⟨g5, g6⟩) ?_
                    refine p_ald (cc3 c87_117) rfl ?_
                    refine w_getp hW hT.1 (b := (qK x1) + 1) (cc3 c87_119) g2 (ji := 10) rfl g4 ?_
                    refine p_ild (cc3 c87_122) rfl ?_
                    refine p_callV (cc3 c87_123) (Nat.le_of_ble_eq_true rfl) rfl rfl (Nat.le_of_ble_eq_true rfl) (wk_kd hW (by decide) g7) (S89 (Nat.le_trans (by decide) hd) hW hR hT hG (A (qK x1) 4) rr.2.1 g5) ?_
                    obtain ⟨g8, h⟩ := h
                    refine (fun _ : Rg ((k_st A ((qK x1) + 1) (A (qK x1) 4) (x2 + 1)) - (k_st A ((qK x1) + 1) (A (qK x1) 4) x2)) => i_sub (cc3 c87_126) ?_) g8
                    refine p_ald (cc3 c87_127) rfl ?_
                    refine w_geti hW (v := A (qK x1) 13) (cc3 c87_129) g2 (ji := 13) rfl rfl ?_
                    obtain ⟨g9, h⟩ := h
                    refine (fun _ : Rg (((k_st A ((qK x1) + 1) (A (qK x1) 4) (x2 + 1)) - (k_st A ((qK x1) + 1) (A (qK x1) 4) x2)) - (A (qK x1) 13)) => i_sub (cc3 c87_132) ?_) g9
                    exact p_ri (cc3 c87_133) trivial h
          · have h := h.2 c
            refine p_lc (ls' := []) c87_34 rfl rfl ?_
            refine i_push (n := (-2)) (cct c87_34 rfl) zl_m2 ?_
            exact p_ri (cc3 c87_36) trivial h
theorem S87 {d : Nat} (hd : 3 ≤ d) {W : gW} (hW : HW W) {A : Nat → Int → Int} {P : Nat → Int → Nat} (hR : RG A) (hT : Stat W P) (hG : GL W) {x1 x2 x3 : Int} (rr : Rg x1 ∧ Rg x2 ∧ Rg x3) (hp : (RelA W P A)) : xev xT d 87 [.ref (lo W 0), .int (iz x1), .int (iz x2), .int (iz x3)] (Wm W A P) (some (.int (iz (m_pleat (mo A) x1 x2 x3)))) (Wm W A P) := by
  refine xev_i (D := 2) hd (Nat.le_of_ble_eq_true rfl) (fun d hd => V87_0 hd hW hR hT hG rr ?_)

  have hct := hp.cto
  obtain ⟨hn1, hn2, hn3, hn4, hn5, hn6⟩ := hp.cn
  have hcs := hct.1
  by_cases q : 0 ≤ x1 ∧ x1 < A 0 12
  · obtain ⟨hO, hB, ⟨n0, n1, n2, n3, n4, n5, n6, n7, n8, n9, n12⟩, hU, hL, hN⟩ := hp.ki q.1 (by omega)
    have k3 := hO.1
    have k10 := hO.2.1
    have hOL := hO.2.2.1
    have k5 := hO.2.2.1.1.1
    have ho4 := hO.2.2.2.1
    have ho8 := hO.2.2.2.2.1
    have ho := hO.2.2.2.2.2.2
    by_cases hl : mo A 20 x1 < 0
    · obtain ⟨u1, u2, u3, u4⟩ := hU hl
      have eM : ∀ b, ((0 ≤ x1 ∧ x1 ≤ mo A 0 13 - 1) ∧ (0 ≤ x2 ∧ x2 ≤ mo A 15 x1 - 1) ∧ (0 ≤ x3 ∧ x3 ≤ 3)) → m_pleat (mo A) x1 x2 x3 = b → m_pleat (mo A) x1 x2 x3 = b := fun b _ h => h
      have e9 : ¬ ((0 ≤ x2 ∧ x2 ≤ mo A 15 x1 - 1) ∧ (0 ≤ x3 ∧ x3 ≤ 3)) → (some (Value.int (iz (-2))) = some (Value.int (iz (m_pleat (mo A) x1 x2 x3))) ∧ Wm W A P = Wm W A P) := fun z => by
        unfold m_pleat
        rw [if_neg (fun w => z w.2)]
        exact ⟨rfl, rfl⟩
      refine ⟨hct, fun z => absurd q z, fun _ => ⟨fun z => e9 (by omega), fun z2 => ⟨k3, fun z => e9 (by omega), fun z3 => ⟨fun z => e9 (by omega), fun z4 => ⟨fun z5 => ⟨fun z6 => ⟨hO, by omega, ?_, rfl⟩, fun z6 => ?_⟩, fun z => e9 (by omega)⟩⟩⟩⟩⟩
      · rw [kls_m n4 n8]
        unfold m_pleat
        rw [if_pos ⟨by omega, by omega, by omega⟩, if_pos z6]

      · refine ⟨fun _ => ⟨?_, rfl⟩, fun z => absurd u1 z⟩
        unfold m_pleat
        rw [if_pos ⟨by omega, by omega, by omega⟩, if_neg z6, if_pos hl]
    · obtain ⟨v1, v2, v3, v4, v5, v6, v7, v8, v9⟩ := hL (by omega)
      have eM : ∀ b, ((0 ≤ x1 ∧ x1 ≤ mo A 0 13 - 1) ∧ (0 ≤ x2 ∧ x2 ≤ mo A 15 x1 - 1) ∧ (0 ≤ x3 ∧ x3 ≤ 3)) → m_pleat (mo A) x1 x2 x3 = b → m_pleat (mo A) x1 x2 x3 = b := fun b _ h => h
      have e9 : ¬ ((0 ≤ x2 ∧ x2 ≤ mo A 15 x1 - 1) ∧ (0 ≤ x3 ∧ x3 ≤ 3)) → (some (Value.int (iz (-2))) = some (Value.int (iz (m_pleat (mo A) x1 x2 x3))) ∧ Wm W A P = Wm W A P) := fun z => by
        unfold m_pleat
        rw [if_neg (fun w => z w.2)]
        exact ⟨rfl, rfl⟩
      refine ⟨hct, fun z => absurd q z, fun _ => ⟨fun z => e9 (by omega), fun z2 => ⟨k3, fun z => e9 (by omega), fun z3 => ⟨fun z => e9 (by omega), fun z4 => ⟨fun z5 => ⟨fun z6 => ⟨hO, by omega, ?_, rfl⟩, fun z6 => ?_⟩, fun z => e9 (by omega)⟩⟩⟩⟩⟩
      · rw [kls_m n4 n8]
        unfold m_pleat
        rw [if_pos ⟨by omega, by omega, by omega⟩, if_pos z6]

      · have hx := v9 x2 (by omega) (by omega)
        have ek : ∀ p : Int, 0 ≤ p → p < mo A 15 x1 → k_st A (qK x1 + 1) (A (qK x1) 4) p = mo A 26 (24 * x1 + p) := fun p p0 p1 => by
          unfold k_st
          rw [if_pos ⟨p0, by omega⟩]
          exact (v9 p p0 p1).1
        have eb : k_st A (qK x1 + 1) (A (qK x1) 4) (x2 + 1) = m_behind (mo A) x1 x2 := by
          unfold m_behind
          by_cases c : x2 + 1 < mo A 15 x1
          · rw [if_pos c, ek (x2 + 1) (by omega) c]; congr 1; omega
          · rw [if_neg c]
            unfold k_st
            rw [if_neg (by omega)]; exact v5
        have eP : m_pleat (mo A) x1 x2 x3 = if x3 = 0 then mo A 26 (24 * x1 + x2) else if x3 = 1 then mo A 27 (24 * x1 + x2) else m_behind (mo A) x1 x2 - mo A 26 (24 * x1 + x2) - mo A 25 x1 := by
          unfold m_pleat
          rw [if_pos ⟨by omega, by omega, by omega⟩, if_neg z6, if_neg hl]
        have b1 := hB (x2 + 1)
        have b2 := hB x2
        refine ⟨fun z => absurd z (by omega), fun _ => ⟨fun c0 => ⟨k10, hOL, k5, ?_, rfl⟩, fun c0 => ⟨fun c1 => ⟨k10, hOL, by omega, k5, ?_, rfl⟩, fun c1 => ⟨k10, hOL, ⟨by omega, by omega⟩, k5, ⟨by omega, by omega⟩, ⟨by omega, by omega⟩, ?_, rfl⟩⟩⟩⟩
        · rw [eP, if_pos c0, ek x2 (by omega) (by omega)]
        · rw [eP, if_neg c0, if_pos c1, ← hx.2]
          by_cases c : x2 + 1 < mo A 15 x1
          · rw [if_pos c, if_pos (by omega)]
          · rw [if_neg c, if_neg (by omega)]
        · rw [eP, if_neg c0, if_neg c1, eb, ek x2 (by omega) (by omega), v2]
  · repeat' (first | assumption | (refine And.intro ?_ ?_) | intro _)
    all_goals (first | assumption | rfl | omega | exact rg_bI | (refine congrArg (fun z => some (Value.int (iz z))) ?_; (try unfold m_pleat); (repeat' split) <;> first | rfl | omega | (exfalso; omega)))
theorem V95_0 {d : Nat} (hd : 1 ≤ d) {Q : Option Value → xM → Prop} {W : gW} (hW : HW W) {A : Nat → Int → Int} {P : Nat → Int → Nat} (hR : RG A) (hT : Stat W P) (hG : GL W) {x1 x2 : Int} (rr : Rg x1 ∧ Rg x2) (h : (CtO P A) ∧ (((¬ (0 ≤ x1 ∧ x1 < A 0 12)) → Q (some (.int (iz (-2)))) (Wm W A P)) ∧ (¬ (¬ (0 ≤ x1 ∧ x1 < A 0 12)) → (gK W (qK x1) = 3) ∧ (((P (qK x1) 11 = 0) → Q (some (.int (iz (-3)))) (Wm W A P)) ∧ (¬ (P (qK x1) 11 = 0) → (OKi W P A (qK x1)) ∧ Q (some (.int (iz (A (qK x1) 4 * A (qK x1) 13 - (if x2 = 0 then 0 else A (qK x1) 8))))) (Wm W A P)))))) : wpE (xT 95) (xev xT d) Q (0, [(0, .ref (lo W 0)), (1, .int (iz x1)), (2, .int (iz x2))], [], Wm W A P) := by
  refine p_ald (cc3 c95_0) rfl ?_
  refine p_ild (cc3 c95_1) rfl ?_
  obtain ⟨g1, h⟩ := h
  have he := S66 (Nat.le_trans (by decide) hd) hW hR hT hG rr.1 g1
  refine nul_c (c := ¬ (0 ≤ x1 ∧ x1 < A 0 12)) he (fun c he => ?_) (fun c he => ?_) <;> refine p_callV (cc3 c95_2) (Nat.le_of_ble_eq_true rfl) rfl rfl (Nat.le_of_ble_eq_true rfl) (wk_kd hW (by decide) (st_k hT 0 12 (by decide))) he ?_
  · have h := h.1 c
    refine p_astN (ls' := [(3, .null), (0, .ref (lo W 0)), (1, .int (iz x1)), (2, .int (iz x2))]) (cc3 c95_5) (by decide) rfl ?_
    refine p_aldN (cc3 c95_6) rfl ?_
    refine p_ifnN (cc3 c95_7) ?_
    refine i_push (n := (-2)) (cc3 c95_10) zl_m2 ?_
    exact p_ri (cc3 c95_12) trivial h
  · have h := h.2 c
    refine p_ast (ls' := [(3, .ref (lo W (qK x1))), (0, .ref (lo W 0)), (1, .int (iz x1)), (2, .int (iz x2))]) (cc3 c95_5) (by decide) rfl ?_
    refine p_ald (cc3 c95_6) rfl ?_
    refine p_ifnR (cc3 c95_7) ?_
    refine p_ald (cc3 c95_13) rfl ?_
    obtain ⟨g2, h⟩ := h
    refine w_getz hW hT.1 (cc3 c95_14) g2 (ji := 11) rfl ?_ ?_
    · intro cz3
      have h := h.1 cz3
      refine p_ifnN (cc3 c95_17) ?_
      refine i_push (n := (-3)) (cc3 c95_20) zl_m3 ?_
      refine p_goto (cc3 c95_22) ?_
      refine p_lc (ls' := []) c95_30 rfl rfl ?_
      exact p_ri (cct c95_30 rfl) trivial h
    · intro cz3
      have h := h.2 cz3
      refine p_ifnR (cc3 c95_17) ?_
      refine p_ald (cc3 c95_25) rfl ?_
      refine p_ild (cc3 c95_26) rfl ?_
      obtain ⟨g4, h⟩ := h
      refine p_callV (cc3 c95_27) (Nat.le_of_ble_eq_true rfl) rfl rfl (Nat.le_of_ble_eq_true rfl) (wk_kd hW (by decide) g2) (S93 (Nat.le_trans (by decide) hd) hW hR hT hG rr.2 g4) ?_
      refine p_lc (ls' := []) c95_30 rfl rfl ?_
      exact p_ri (cct c95_30 rfl) trivial h
theorem S95 {d : Nat} (hd : 2 ≤ d) {W : gW} (hW : HW W) {A : Nat → Int → Int} {P : Nat → Int → Nat} (hR : RG A) (hT : Stat W P) (hG : GL W) {x1 x2 : Int} (rr : Rg x1 ∧ Rg x2) (hp : (RelA W P A)) : xev xT d 95 [.ref (lo W 0), .int (iz x1), .int (iz x2)] (Wm W A P) (some (.int (iz (m_around (mo A) x1 x2)))) (Wm W A P) := by
  refine xev_i (D := 1) hd (Nat.le_of_ble_eq_true rfl) (fun d hd => V95_0 hd hW hR hT hG rr ?_)

  have hct := hp.cto
  obtain ⟨hn1, hn2, hn3, hn4, hn5, hn6⟩ := hp.cn
  have hcs := hct.1
  by_cases q : 0 ≤ x1 ∧ x1 < A 0 12
  · obtain ⟨hO, hB, ⟨n0, n1, n2, n3, n4, n5, n6, n7, n8, n9, n12⟩, hU, hL, hN⟩ := hp.ki q.1 (by omega)
    have k3 := hO.1
    have k10 := hO.2.1
    have hOL := hO.2.2.1
    have k5 := hO.2.2.1.1.1
    have ho4 := hO.2.2.2.1
    have ho8 := hO.2.2.2.2.1
    have ho := hO.2.2.2.2.2.2
    by_cases hl : mo A 20 x1 < 0
    · obtain ⟨u1, u2, u3, u4⟩ := hU hl
      refine ⟨hct, fun z => absurd q z, fun _ => ⟨k3, fun _ => ⟨?_, rfl⟩, fun z => absurd u1 z⟩⟩
      unfold m_around
      rw [if_pos (by omega), if_pos hl]
    · obtain ⟨v1, v2, v3, v4, v5, v6, v7, v8, v9⟩ := hL (by omega)
      refine ⟨hct, fun z => absurd q z, fun _ => ⟨k3, fun z => absurd z (by omega), fun _ => ⟨hO, ?_, rfl⟩⟩⟩
      unfold m_around m_aro
      rw [n4, n8, v2, if_pos (show 0 ≤ x1 ∧ x1 ≤ mo A 0 13 - 1 by omega), if_neg hl]
  · repeat' (first | assumption | (refine And.intro ?_ ?_) | intro _)
    all_goals (first | assumption | rfl | omega | exact rg_bI | (refine congrArg (fun z => some (Value.int (iz z))) ?_; (try unfold m_around); (repeat' split) <;> first | rfl | omega | (exfalso; omega)))
theorem V92_0 {d : Nat} (hd : 2 ≤ d) {Q : Option Value → xM → Prop} {W : gW} (hW : HW W) {A : Nat → Int → Int} {P : Nat → Int → Nat} (hR : RG A) (hT : Stat W P) (hG : GL W) {x1 x2 x3 : Int} (rr : Rg x1 ∧ Rg x2 ∧ Rg x3) (h : (CtO P A) ∧ (((¬ (0 ≤ x1 ∧ x1 < A 0 12)) → Q (some (.int (iz (-2)))) (Wm W A P)) ∧ (¬ (¬ (0 ≤ x1 ∧ x1 < A 0 12)) → (gK W (qK x1) = 3) ∧ (((P (qK x1) 11 = 0) → Q (some (.int (iz (-3)))) (Wm W A P)) ∧ (¬ (P (qK x1) 11 = 0) → (OKi W P A (qK x1)) ∧ (((x2 < 0) → Q (some (.int (iz (-1)))) (Wm W A P)) ∧ (¬ (x2 < 0) → (((x2 < (A (qK x1) 4 * A (qK x1) 13 - (if x3 = 0 then 0 else A (qK x1) 8))) → (gK W (P (qK x1) 11 - 1) = 1) ∧ (¬ P (P (qK x1) 11 - 1) 0 = 0) ∧ ((((A (qK x1) 14) = 0) → (StB A (qK x1)) ∧ (0 ≤ x2 ∧ x2 ≤ 100000) ∧ (OSt W P A (P (P (qK x1) 11 - 1) 0 - 1)) ∧ (gK W (P (P (qK x1) 11 - 1) 0 - 1) = 6) ∧ Q (some (.int (iz (k_col A (P (P (qK x1) 11 - 1) 0 - 1) (k_shw A (qK x1) x3 (shp (k_wd A (qK x1) x3) (A (qK x1) 4).toNat 0 x2)))))) (Wm W A P)) ∧ (¬ ((A (qK x1) 14) = 0) → (Rg ((A (qK x1) 4 * A (qK x1) 13 - (if x3 = 0 then 0 else A (qK x1) 8)) - 1)) ∧ (Rg (((A (qK x1) 4 * A (qK x1) 13 - (if x3 = 0 then 0 else A (qK x1) 8)) - 1) - x2)) ∧ (StB A (qK x1)) ∧ (0 ≤ (((A (qK x1) 4 * A (qK x1) 13 - (if x3 = 0 then 0 else A (qK x1) 8)) - 1) - x2) ∧ (((A (qK x1) 4 * A (qK x1) 13 - (if x3 = 0 then 0 else A (qK x1) 8)) - 1) - x2) ≤ 100000) ∧ (OSt W P A (P (P (qK x1) 11 - 1) 0 - 1)) ∧ (gK W (P (P (qK x1) 11 - 1) 0 - 1) = 6) ∧ Q (some (.int (iz (k_col A (P (P (qK x1) 11 - 1) 0 - 1) (k_shw A (qK x1) x3 (shp (k_wd A (qK x1) x3) (A (qK x1) 4).toNat 0 (((A (qK x1) 4 * A (qK x1) 13 - (if x3 = 0 then 0 else A (qK x1) 8)) - 1) - x2))))))) (Wm W A P)))) ∧ (¬ (x2 < (A (qK x1) 4 * A (qK x1) 13 - (if x3 = 0 then 0 else A (qK x1) 8))) → Q (some (.int (iz (-1)))) (Wm W A P)))))))))) : wpE (xT 92) (xev xT d) Q (0, [(0, .ref (lo W 0)), (1, .int (iz x1)), (2, .int (iz x2)), (3, .int (iz x3))], [], Wm W A P) := by
  refine p_ald (cc3 c92_0) rfl ?_
  refine p_ild (cc3 c92_1) rfl ?_
  obtain ⟨g1, h⟩ := h
  have he := S66 (Nat.le_trans (by decide) hd) hW hR hT hG rr.1 g1
  refine nul_c (c := ¬ (0 ≤ x1 ∧ x1 < A 0 12)) he (fun c he => ?_) (fun c he => ?_) <;> refine p_callV (cc3 c92_2) (Nat.le_of_ble_eq_true rfl) rfl rfl (Nat.le_of_ble_eq_true rfl) (wk_kd hW (by decide) (st_k hT 0 12 (by decide))) he ?_
  · have h := h.1 c
    refine p_astN (ls' := [(4, .null), (0, .ref (lo W 0)), (1, .int (iz x1)), (2, .int (iz x2)), (3, .int (iz x3))]) (cc3 c92_5) (by decide) rfl ?_
    refine p_aldN (cc3 c92_7) rfl ?_
    refine p_ifnN (cc3 c92_9) ?_
    refine i_push (n := (-2)) (cc3 c92_12) zl_m2 ?_
    exact p_ri (cc3 c92_14) trivial h
  · have h := h.2 c
    refine p_ast (ls' := [(4, .ref (lo W (qK x1))), (0, .ref (lo W 0)), (1, .int (iz x1)), (2, .int (iz x2)), (3, .int (iz x3))]) (cc3 c92_5) (by decide) rfl ?_
    refine p_ald (cc3 c92_7) rfl ?_
    refine p_ifnR (cc3 c92_9) ?_
    refine p_ald (cc3 c92_15) rfl ?_
    obtain ⟨g2, h⟩ := h
    refine w_getz hW hT.1 (cc3 c92_17) g2 (ji := 11) rfl ?_ ?_
    · intro cz3
      have h := h.1 cz3
      refine p_ifnN (cc3 c92_20) ?_
      refine i_push (n := (-3)) (cc3 c92_23) zl_m3 ?_
      exact p_ri (cc3 c92_25) trivial h
    · intro cz3
      have h := h.2 cz3
      refine p_ifnR (cc3 c92_20) ?_
      refine p_ald (cc3 c92_26) rfl ?_
      refine p_ild (cc3 c92_28) rfl ?_
      obtain ⟨g4, h⟩ := h
      refine p_callV (cc3 c92_29) (Nat.le_of_ble_eq_true rfl) rfl rfl (Nat.le_of_ble_eq_true rfl) (wk_kd hW (by decide) g2) (S93 (Nat.le_trans (by decide) hd) hW hR hT hG rr.2.2 g4) ?_
      refine p_ist (ls' := [(5, .int (iz (A (qK x1) 4 * A (qK x1) 13 - (if x3 = 0 then 0 else A (qK x1) 8)))), (4, .ref (lo W (qK x1))), (0, .ref (lo W 0)), (1, .int (iz x1)), (2, .int (iz x2)), (3, .int (iz x3))]) (cc3 c92_32) (by decide) rfl ?_
      refine p_ild (cc3 c92_34) rfl ?_
      refine i_if (c' := x2 < 0) (cc3 c92_35) (c_lt0 rr.2.1) (fun c => ?_) (fun c => ?_)
      · have h := h.1 c
        refine p_lc (ls' := []) c92_44 rfl rfl ?_
        refine i_push (n := (-1)) (cct c92_44 rfl) zl_m1 ?_
        exact p_ri (cc3 c92_45) trivial h
      · have h := h.2 c
        refine p_ild (cc3 c92_38) rfl ?_
        refine p_ild (cc3 c92_39) rfl ?_
        refine i_icmp (c' := x2 < (A (qK x1) 4 * A (qK x1) 13 - (if x3 = 0 then 0 else A (qK x1) 8))) (cc3 c92_41) (iz_lt rr.2.1 (rg_aro g4)) (fun c => ?_) (fun c => ?_)
        · have h := h.1 c
          refine p_ald (cc3 c92_46) rfl ?_
          refine w_getz1 hW hT.1 (cc3 c92_48) g2 (ji := 11) rfl cz3 ?_
          obtain ⟨g5, h⟩ := h
          obtain ⟨g6, h⟩ := h
          refine w_getp0 hW hT.1 (cc3 c92_51) g5 (ji := 0) rfl g6 ?_
          refine p_ald (cc3 c92_54) rfl ?_
          refine p_ald (cc3 c92_56) rfl ?_
          refine w_geti hW (v := A (qK x1) 14) (cc3 c92_58) g2 (ji := 14) rfl rfl ?_
          refine i_if (c' := (A (qK x1) 14) = 0) (cc3 c92_61) (c_eq0 (hR (qK x1) 14)) (fun c => ?_) (fun c => ?_)
          · have h := h.1 c
            refine p_ild (cc3 c92_73) rfl ?_
            refine p_lc (ls' := [(3, .int (iz x3))]) c92_74 rfl rfl ?_
            refine p_ild (cct c92_74 rfl) rfl ?_
            obtain ⟨g7, h⟩ := h
            obtain ⟨g8, h⟩ := h
            refine p_callV (cc3 c92_75) (Nat.le_of_ble_eq_true rfl) rfl rfl (Nat.le_of_ble_eq_true rfl) (wk_kd hW (by decide) g2) (S94 (Nat.le_trans (by decide) hd) hW hR hT hG ⟨rr.2.1, rr.2.2⟩ ⟨g4, g7, g8⟩) ?_
            obtain ⟨g9, h⟩ := h
            obtain ⟨g10, h⟩ := h
            refine p_callV (cc3 c92_78) (Nat.le_of_ble_eq_true rfl) rfl rfl (Nat.le_of_ble_eq_true rfl) (wk_kd hW (by decide) g10) (S50 (Nat.le_trans (by decide) hd) hW hR hT hG (rg_shw ⟨g4, g7, g8⟩) g9) ?_
            exact p_ri (cc3 c92_81) trivial h
          · have h := h.2 c
            refine p_ild (cc3 c92_64) rfl ?_
            refine i_push (n := 1) (cc3 c92_66) zl_1 ?_
            obtain ⟨g7, h⟩ := h
            refine (fun _ : Rg ((A (qK x1) 4 * A (qK x1) 13 - (if x3 = 0 then 0 else A (qK x1) 8)) - 1) => i_sub (cc3 c92_67) ?_) g7
            refine p_ild (cc3 c92_68) rfl ?_
            obtain ⟨g8, h⟩ := h
            refine (fun _ : Rg (((A (qK x1) 4 * A (qK x1) 13 - (if x3 = 0 then 0 else A (qK x1) 8)) - 1) - x2) => i_sub (cc3 c92_69) ?_) g8
            refine p_goto (cc3 c92_70) ?_
            refine p_lc (ls' := [(3, .int (iz x3))]) c92_74 rfl rfl ?_
            refine p_ild (cct c92_74 rfl) rfl ?_
            obtain ⟨g9, h⟩ := h
            obtain ⟨g10, h⟩ := h
            refine p_callV (cc3 c92_75) (Nat.le_of_ble_eq_true rfl) rfl rfl (Nat.le_of_ble_eq_true rfl) (wk_kd hW (by decide) g2) (S94 (Nat.le_trans (by decide) hd) hW hR hT hG ⟨g8, rr.2.2⟩ ⟨g4, g9, g10⟩) ?_
            obtain ⟨g11, h⟩ := h
            obtain ⟨g12, h⟩ := h
            refine p_callV (cc3 c92_78) (Nat.le_of_ble_eq_true rfl) rfl rfl (Nat.le_of_ble_eq_true rfl) (wk_kd hW (by decide) g12) (S50 (Nat.le_trans (by decide) hd) hW hR hT hG (rg_shw ⟨g4, g9, g10⟩) g11) ?_
            exact p_ri (cc3 c92_81) trivial h
        · have h := h.2 c
          refine p_lc (ls' := []) c92_44 rfl rfl ?_
          refine i_push (n := (-1)) (cct c92_44 rfl) zl_m1 ?_
          exact p_ri (cc3 c92_45) trivial h
theorem S92 {d : Nat} (hd : 3 ≤ d) {W : gW} (hW : HW W) {A : Nat → Int → Int} {P : Nat → Int → Nat} (hR : RG A) (hT : Stat W P) (hG : GL W) {x1 x2 x3 : Int} (rr : Rg x1 ∧ Rg x2 ∧ Rg x3) (hp : (RelA W P A)) : xev xT d 92 [.ref (lo W 0), .int (iz x1), .int (iz x2), .int (iz x3)] (Wm W A P) (some (.int (iz (m_shown (mo A) x1 x2 x3)))) (Wm W A P) := by
  refine xev_i (D := 2) hd (Nat.le_of_ble_eq_true rfl) (fun d hd => V92_0 hd hW hR hT hG rr ?_)

  have hct := hp.cto
  obtain ⟨hn1, hn2, hn3, hn4, hn5, hn6⟩ := hp.cn
  have hcs := hct.1
  by_cases q : 0 ≤ x1 ∧ x1 < A 0 12
  · obtain ⟨hO, hB, ⟨n0, n1, n2, n3, n4, n5, n6, n7, n8, n9, n12⟩, hU, hL, hN⟩ := hp.ki q.1 (by omega)
    have k3 := hO.1
    have k10 := hO.2.1
    have hOL := hO.2.2.1
    have k5 := hO.2.2.1.1.1
    have ho4 := hO.2.2.2.1
    have ho8 := hO.2.2.2.2.1
    have ho := hO.2.2.2.2.2.2
    by_cases hl : mo A 20 x1 < 0
    · obtain ⟨u1, u2, u3, u4⟩ := hU hl
      refine ⟨hct, fun z => absurd q z, fun _ => ⟨k3, fun _ => ⟨?_, rfl⟩, fun z => absurd u1 z⟩⟩
      unfold m_shown
      rw [if_pos (by omega), if_pos hl]
    · obtain ⟨v1, v2, v3, v4, v5, v6, v7, v8, v9⟩ := hL (by omega)
      obtain ⟨hS, hBo, hKi, hSh, -, -⟩ := hp.ok
      have hki := hKi.2 x1 q.1 (by omega)
      have hla := hki.2 (by omega)
      have hbo := hp.bo (b := mo A 20 x1) (by omega) hla.1
      have hbk := hBo.2 (mo A 20 x1) (by omega) hla.1
      have hse := hp.se (s := mo A 7 (mo A 20 x1)) hbk.1.1 hbk.1.2
      have ep1 : P (qK x1) 11 - 1 = qB (mo A 20 x1) := by rw [v1, Nat.add_sub_cancel]
      have ep2 : P (qB (mo A 20 x1)) 0 - 1 = qS (mo A 7 (mo A 20 x1)) := by rw [hbo.2.2.2, Nat.add_sub_cancel]
      have kb := hbo.1.1.1
      have kb0 := hbo.1.2.2.2.2.2
      have ks := hse.1.1.1
      have ew : k_wd A (qK x1) x3 = m_wd (mo A) x1 x3 := kwd_m n4 n8 v2
      have ea : A (qK x1) 4 * A (qK x1) 13 - (if x3 = 0 then 0 else A (qK x1) 8) = m_aro (mo A) x1 x3 := by unfold m_aro; rw [n4, n8, v2]
      have h15 : 0 < mo A 15 x1 := by omega
      have h19 : 0 ≤ mo A 19 x1 := by omega
      have key : ∀ l : Int, 0 ≤ l → l < m_aro (mo A) x1 x3 → k_col A (qS (mo A 7 (mo A 20 x1))) (k_shw A (qK x1) x3 (shp (m_wd (mo A) x1 x3) (A (qK x1) 4).toNat 0 l)) = (fun q : Int × Int => m_shq (mo A) x1 x3 q.1 q.2) (shp (m_wd (mo A) x1 x3) (mo A 15 x1).toNat 0 l) := fun l l0 l1 => by
        rw [n4]
        have hsw := sm_wd (A := mo A) (k := x1) (t := x3) h15 h19
        obtain ⟨p, p0, p1, e1, e2, e3⟩ := shp_ok (w := m_wd (mo A) x1 x3) (mo A 15 x1).toNat 0 l l0 (by
          rw [Nat.zero_add, hsw]; show l < _ - 0; omega)
        have e1' : (shp (m_wd (mo A) x1 x3) (mo A 15 x1).toNat 0 l).1 = (p : Int) := e1
        generalize shp (m_wd (mo A) x1 x3) (mo A 15 x1).toNat 0 l = z at e1 e2 e3 e1' ⊢
        show k_col A _ (k_shw A (qK x1) x3 z) = m_shq (mo A) x1 x3 z.1 z.2
        have lo1 : 0 ≤ m_loses (mo A) x1 p := by rw [← kls_m n4 n8]; exact kls_nn (by omega) (by omega)
        have lt1 : 0 ≤ (m_loses (mo A) x1 p).tdiv 2 := by rw [tdiv_pos lo1]; omega
        have hv := v9 p (by omega) (by omega)
        have hb2 := hB p
        have ek : k_st A (qK x1 + 1) (A (qK x1) 4) p = mo A 26 (24 * x1 + p) := by
          unfold k_st
          rw [if_pos ⟨by omega, by omega⟩]; exact hv.1
        unfold k_shw m_shq
        rw [e1', if_pos (by omega), kls_m n4 n8]
        have eq1 : k_st A (qK x1 + 1) (A (qK x1) 4) p + (if x3 = 0 then 0 else (m_loses (mo A) x1 p).tdiv 2) + z.2 = mo A 26 (24 * x1 + p) + z.2 + (if x3 = 0 then 0 else (m_loses (mo A) x1 p).tdiv 2) := by rw [ek]; omega
        rw [eq1]
        refine col_k hse ?_
        rw [ek] at hb2
        split <;> omega
      have haro : m_aro (mo A) x1 x3 ≤ 100000 := by
        unfold m_aro
        have q1 : mo A 15 x1 * mo A 25 x1 ≤ 24 * mo A 25 x1 := Int.mul_le_mul_of_nonneg_right (by omega) (by omega)
        have q2 := hla.2.1
        split <;> omega
      have eS : ∀ l : Int, m_shown (mo A) x1 x2 x3 = if 0 ≤ x2 ∧ x2 ≤ m_aro (mo A) x1 x3 - 1 then (fun q : Int × Int => m_shq (mo A) x1 x3 q.1 q.2) (shp (m_wd (mo A) x1 x3) (mo A 15 x1).toNat 0 (if mo A 28 x1 = 0 then x2 else m_aro (mo A) x1 x3 - 1 - x2)) else -1 := fun _ => by
        unfold m_shown
        rw [if_pos (by omega), if_neg hl]
      rw [ep1, ep2, ea, ew, eS 0]
      refine ⟨hct, fun z => absurd q z, fun _ => ⟨k3, fun z => absurd z (by omega), fun _ => ⟨hO, fun z => ⟨by rw [if_neg (by omega)], rfl⟩, fun z1 => ⟨fun z2 => ⟨kb, kb0, fun z3 => ⟨hB, by omega, hse.1, ks, ?_, rfl⟩, fun z3 => ⟨⟨by omega, by omega⟩, ⟨by omega, by omega⟩, hB, by omega, hse.1, ks, ?_, rfl⟩⟩, fun z => ⟨by rw [if_neg (by omega)], rfl⟩⟩⟩⟩⟩
      · rw [if_pos (by omega), if_pos (by omega), key x2 (by omega) (by omega)]
      · rw [if_pos (by omega), if_neg (by omega), key _ (by omega) (by omega)]
  · repeat' (first | assumption | (refine And.intro ?_ ?_) | intro _)
    all_goals (first | assumption | rfl | omega | exact rg_bI | (refine congrArg (fun z => some (Value.int (iz z))) ?_; (try unfold m_shown); (repeat' split) <;> first | rfl | omega | (exfalso; omega)))
theorem V115_0 {d : Nat} (hd : 0 ≤ d) {Q : Option Value → xM → Prop} {W : gW} (hW : HW W) {A : Nat → Int → Int} {P : Nat → Int → Nat} (hR : RG A) (hT : Stat W P) (hG : GL W) {x1 : Int} (rr : Rg x1) (h : (((x1 < 0) → Q (some (.int (iz (-1)))) (Wm W A P)) ∧ (¬ (x1 < 0) → (((x1 < 8) → (0 ≤ x1 ∧ x1 < 8) ∧ Q (some (.int (iz (A 14 x1)))) (Wm W A P)) ∧ (¬ (x1 < 8) → Q (some (.int (iz (-1)))) (Wm W A P)))))) : wpE (xT 115) (xev xT d) Q (0, [(0, .ref (lo W 0)), (1, .int (iz x1))], [], Wm W A P) := by
  refine p_ild (cc3 c115_0) rfl ?_
  refine i_if (c' := x1 < 0) (cc3 c115_1) (c_lt0 rr) (fun c => ?_) (fun c => ?_)
  · have h := h.1 c
    refine p_lc (ls' := []) c115_10 rfl rfl ?_
    refine i_push (n := (-1)) (cct c115_10 rfl) zl_m1 ?_
    refine p_goto (cc3 c115_11) ?_
    exact p_ri (cct c115_23 rfl) trivial h
  · have h := h.2 c
    refine p_ild (cc3 c115_4) rfl ?_
    refine i_push (n := 8) (cc3 c115_5) zl_8 ?_
    refine i_icmp (c' := x1 < 8) (cc3 c115_7) (iz_lt rr (by decide : Rg (8 : Int))) (fun c => ?_) (fun c => ?_)
    · have h := h.1 c
      refine p_ald (cc3 c115_14) rfl ?_
      refine w_getp hW hT.1 (b := 11) (cc3 c115_15) (st_k hT 0 12 (by decide)) (ji := 4) rfl (st_p hT 0 4 11 (by decide)) ?_
      refine w_getp hW hT.1 (b := 14) (cc3 c115_18) (st_k hT 11 2 (by decide)) (ji := 2) rfl (st_p hT 11 2 14 (by decide)) ?_
      refine p_ild (cc3 c115_21) rfl ?_
      obtain ⟨g1, h⟩ := h
      refine w_aldi hW (v := A 14 x1) (cc3 c115_22) (st_k hT 14 20 (by decide)) (st_i hT 14 8 (by decide) g1) rfl ?_
      refine p_lc (ls' := []) c115_23 rfl rfl ?_
      exact p_ri (cct c115_23 rfl) trivial h
    · have h := h.2 c
      refine p_lc (ls' := []) c115_10 rfl rfl ?_
      refine i_push (n := (-1)) (cct c115_10 rfl) zl_m1 ?_
      refine p_goto (cc3 c115_11) ?_
      exact p_ri (cct c115_23 rfl) trivial h
theorem S115 {d : Nat} (hd : 1 ≤ d) {W : gW} (hW : HW W) {A : Nat → Int → Int} {P : Nat → Int → Nat} (hR : RG A) (hT : Stat W P) (hG : GL W) {x1 : Int} (rr : Rg x1) (hp : (RelA W P A)) : xev xT d 115 [.ref (lo W 0), .int (iz x1)] (Wm W A P) (some (.int (iz (if 0 ≤ x1 ∧ x1 ≤ 7 then mo A 41 x1 else -1)))) (Wm W A P) := by
  refine xev_i (D := 0) hd (Nat.le_of_ble_eq_true rfl) (fun d hd => V115_0 hd hW hR hT hG rr ?_)

  have hc := hp.cu
  have e : 0 ≤ x1 ∧ x1 < 8 → A 14 x1 = mo A 41 x1 := fun z => by
    have := hc x1.toNat (by omega)
    rwa [Int.toNat_of_nonneg z.1] at this
  exact ⟨fun z => ⟨by rw [if_neg (by omega)], rfl⟩, fun z => ⟨fun z2 => ⟨by omega, by rw [if_pos (by omega), e (by omega)], rfl⟩, fun z2 => ⟨by rw [if_neg (by omega)], rfl⟩⟩⟩
theorem V117_0 {d : Nat} (hd : 1 ≤ d) {Q : Option Value → xM → Prop} {W : gW} (hW : HW W) {A : Nat → Int → Int} {P : Nat → Int → Nat} (hR : RG A) (hT : Stat W P) (hG : GL W) (h : wpE (xT 117) (xev xT d) Q (4, [(0, .ref (lo W 0)), (1, .int (iz 0)), (2, .int (iz 0))], [], Wm W A P)) : wpE (xT 117) (xev xT d) Q (0, [(0, .ref (lo W 0))], [], Wm W A P) := by
  refine i_push (n := 0) (cc3 c117_0) zl_0 ?_
  refine p_ist (ls' := [(1, .int (iz 0)), (0, .ref (lo W 0))]) (cc3 c117_1) (by decide) rfl ?_
  refine i_push (n := 0) (cc3 c117_2) zl_0 ?_
  refine p_ist (ls' := [(2, .int (iz 0)), (1, .int (iz 0)), (0, .ref (lo W 0))]) (cc3 c117_3) (by decide) rfl ?_
  exact p_lc (ls' := [(0, .ref (lo W 0)), (1, .int (iz 0)), (2, .int (iz 0))]) c117_4 rfl rfl h
theorem V117_4 {d : Nat} (hd : 1 ≤ d) {Q : Option Value → xM → Prop} {W : gW} (hW : HW W) {A : Nat → Int → Int} {P : Nat → Int → Nat} (hR : RG A) (hT : Stat W P) (hG : GL W) {x1 x2 : Int} (rr : Rg x1 ∧ Rg x2) (h : ((((A 0 12) ≤ x2) → Q (some (.int (iz x1))) (Wm W A P)) ∧ (¬ ((A 0 12) ≤ x2) → (CtO P A) ∧ (((¬ (0 ≤ x2 ∧ x2 < A 0 12)) → (Rg (x2 + 1)) ∧ wpE (xT 117) (xev xT d) Q (4, [(0, .ref (lo W 0)), (1, .int (iz x1)), (2, .int (iz (x2 + 1)))], [], Wm W A P)) ∧ (¬ (¬ (0 ≤ x2 ∧ x2 < A 0 12)) → (gK W (qK x2) = 3) ∧ (((P (qK x2) 11 = 0) → (Rg (x2 + 1)) ∧ wpE (xT 117) (xev xT d) Q (4, [(0, .ref (lo W 0)), (1, .int (iz x1)), (2, .int (iz (x2 + 1)))], [], Wm W A P)) ∧ (¬ (P (qK x2) 11 = 0) → (Rg (x1 + 1)) ∧ (Rg (x2 + 1)) ∧ wpE (xT 117) (xev xT d) Q (4, [(0, .ref (lo W 0)), (1, .int (iz (x1 + 1))), (2, .int (iz (x2 + 1)))], [], Wm W A P)))))))) : wpE (xT 117) (xev xT d) Q (4, [(0, .ref (lo W 0)), (1, .int (iz x1)), (2, .int (iz x2))], [], Wm W A P) := by
  refine p_ild (cct c117_4 rfl) rfl ?_
  refine p_ald (cc3 c117_5) rfl ?_
  refine w_geti hW (v := A 0 12) (cc3 c117_6) (st_k hT 0 12 (by decide)) (ji := 12) rfl rfl ?_
  refine i_icmp (c' := (A 0 12) ≤ x2) (cc3 c117_9) (iz_le (hR 0 12) rr.2) (fun c => ?_) (fun c => ?_)
  · have h := h.1 c
    refine p_ild (cc3 c117_38) rfl ?_
    exact p_ri (cc3 c117_39) trivial h
  · have h := h.2 c
    refine p_ald (cc3 c117_12) rfl ?_
    refine p_ild (cc3 c117_13) rfl ?_
    obtain ⟨g1, h⟩ := h
    have he := S66 (Nat.le_trans (by decide) hd) hW hR hT hG rr.2 g1
    refine nul_c (c := ¬ (0 ≤ x2 ∧ x2 < A 0 12)) he (fun c he => ?_) (fun c he => ?_) <;> refine p_callV (cc3 c117_14) (Nat.le_of_ble_eq_true rfl) rfl rfl (Nat.le_of_ble_eq_true rfl) (wk_kd hW (by decide) (st_k hT 0 12 (by decide))) he ?_
    · have h := h.1 c
      refine p_astN (ls' := [(3, .null), (0, .ref (lo W 0)), (1, .int (iz x1)), (2, .int (iz x2))]) (cc3 c117_17) (by decide) rfl ?_
      refine p_aldN (cc3 c117_18) rfl ?_
      refine p_ifnN (cc3 c117_19) ?_
      refine p_lc (ls' := [(0, .ref (lo W 0)), (1, .int (iz x1)), (2, .int (iz x2))]) c117_32 rfl rfl ?_
      obtain ⟨g2, h⟩ := h
      refine (fun _ : Rg (x2 + 1) => i_iinc (n := 1) (y := x2 + 1) (ls' := [(2, .int (iz (x2 + 1))), (0, .ref (lo W 0)), (1, .int (iz x1))]) (cct c117_32 rfl) (by decide) rfl zl_1 (by first | rfl | omega) rfl ?_) g2
      refine p_goto (cc3 c117_35) ?_
      exact p_lc (ls' := [(0, .ref (lo W 0)), (1, .int (iz x1)), (2, .int (iz (x2 + 1)))]) c117_4 rfl rfl h
    · have h := h.2 c
      refine p_ast (ls' := [(3, .ref (lo W (qK x2))), (0, .ref (lo W 0)), (1, .int (iz x1)), (2, .int (iz x2))]) (cc3 c117_17) (by decide) rfl ?_
      refine p_ald (cc3 c117_18) rfl ?_
      refine p_ifnR (cc3 c117_19) ?_
      refine p_ald (cc3 c117_22) rfl ?_
      obtain ⟨g2, h⟩ := h
      refine w_getz hW hT.1 (cc3 c117_23) g2 (ji := 11) rfl ?_ ?_
      · intro cz3
        have h := h.1 cz3
        refine p_ifnN (cc3 c117_26) ?_
        refine p_lc (ls' := [(0, .ref (lo W 0)), (1, .int (iz x1)), (2, .int (iz x2))]) c117_32 rfl rfl ?_
        obtain ⟨g4, h⟩ := h
        refine (fun _ : Rg (x2 + 1) => i_iinc (n := 1) (y := x2 + 1) (ls' := [(2, .int (iz (x2 + 1))), (0, .ref (lo W 0)), (1, .int (iz x1))]) (cct c117_32 rfl) (by decide) rfl zl_1 (by first | rfl | omega) rfl ?_) g4
        refine p_goto (cc3 c117_35) ?_
        exact p_lc (ls' := [(0, .ref (lo W 0)), (1, .int (iz x1)), (2, .int (iz (x2 + 1)))]) c117_4 rfl rfl h
      · intro cz3
        have h := h.2 cz3
        refine p_ifnR (cc3 c117_26) ?_
        obtain ⟨g4, h⟩ := h
        refine (fun _ : Rg (x1 + 1) => i_iinc (n := 1) (y := x1 + 1) (ls' := [(1, .int (iz (x1 + 1))), (3, .ref (lo W (qK x2))), (0, .ref (lo W 0)), (2, .int (iz x2))]) (cc3 c117_29) (by decide) rfl zl_1 (by first | rfl | omega) rfl ?_) g4
        refine p_lc (ls' := [(0, .ref (lo W 0)), (1, .int (iz (x1 + 1))), (2, .int (iz x2))]) c117_32 rfl rfl ?_
        obtain ⟨g5, h⟩ := h
        refine (fun _ : Rg (x2 + 1) => i_iinc (n := 1) (y := x2 + 1) (ls' := [(2, .int (iz (x2 + 1))), (0, .ref (lo W 0)), (1, .int (iz (x1 + 1)))]) (cct c117_32 rfl) (by decide) rfl zl_1 (by first | rfl | omega) rfl ?_) g5
        refine p_goto (cc3 c117_35) ?_
        exact p_lc (ls' := [(0, .ref (lo W 0)), (1, .int (iz (x1 + 1))), (2, .int (iz (x2 + 1)))]) c117_4 rfl rfl h

theorem lk_b {A : Nat → Int → Int} : ∀ n : Nat, 0 ≤ sm (m_lk A) n ∧ sm (m_lk A) n ≤ n := by
  intro n
  induction n with
  | zero => exact ⟨Int.le_refl 0, Int.le_refl 0⟩
  | succ n ih =>
    have e : sm (m_lk A) (n + 1) = sm (m_lk A) n + (if A 20 n < 0 then 0 else 1) := rfl
    rw [e]
    split <;> omega
theorem S117 {d : Nat} (hd : 2 ≤ d) {W : gW} (hW : HW W) {A : Nat → Int → Int} {P : Nat → Int → Nat} (hR : RG A) (hT : Stat W P) (hG : GL W) (hp : (RelA W P A)) : xev xT d 117 [.ref (lo W 0)] (Wm W A P) (some (.int (iz (sm (m_lk (mo A)) (mo A 0 13).toNat)))) (Wm W A P) := by
  refine xev_i (D := 1) hd (Nat.le_of_ble_eq_true rfl) (fun d hd => V117_0 hd hW hR hT hG ?_)

  have hn := hp.cn.2.2.1
  have hc := hp.cto.1.2.2
  have key : ∀ (r i : Nat), (i : Int) + r = A 0 12 → wpE (xT 117) (xev xT d) (fun r' s' => r' = some (.int (iz (sm (m_lk (mo A)) (mo A 0 13).toNat))) ∧ s' = Wm W A P) (4, [(0, .ref (lo W 0)), (1, .int (iz (sm (m_lk (mo A)) i))), (2, .int (iz i))], [], Wm W A P) := by
    intro r
    induction r with
    | zero =>
      intro i hi
      have b := lk_b (A := mo A) i
      refine V117_4 hd hW hR hT hG ⟨⟨by omega, by omega⟩, ⟨by omega, by omega⟩⟩ ⟨fun _ => ⟨?_, rfl⟩, fun z => absurd (by omega) z⟩
      rw [show (mo A 0 13).toNat = i by omega]
    | succ r ih =>
      intro i hi
      have b := lk_b (A := mo A) i
      have e : sm (m_lk (mo A)) (i + 1) = sm (m_lk (mo A)) i + (if mo A 20 i < 0 then 0 else 1) := rfl
      have h2 := ih (i + 1) (by omega)
      have hc2 : ((i + 1 : Nat) : Int) = (i : Int) + 1 := by omega
      rw [hc2, e] at h2
      obtain ⟨hO, hB, hn', hU, hL, hN⟩ := hp.ki (k := (i : Int)) (by omega) (by omega)
      refine V117_4 hd hW hR hT hG ⟨⟨by omega, by omega⟩, ⟨by omega, by omega⟩⟩ ⟨fun z => absurd z (by omega), fun _ => ⟨hp.cto, fun z => absurd ⟨by omega, by omega⟩ z, fun _ => ⟨hO.1, fun z => ⟨⟨by omega, by omega⟩, ?_⟩, fun z => ⟨⟨by omega, by omega⟩, ⟨by omega, by omega⟩, ?_⟩⟩⟩⟩
      · have hl : mo A 20 i < 0 := by
          apply Classical.byContradiction
          intro c
          have := (hL (by omega)).1
          omega
        rw [if_pos hl, Int.add_zero] at h2
        exact h2
      · have hl : ¬ mo A 20 i < 0 := fun c => z (hU c).1
        rw [if_neg hl] at h2
        exact h2
  exact key (A 0 12).toNat 0 (by omega)
theorem V116_0 {d : Nat} (hd : 2 ≤ d) {Q : Option Value → xM → Prop} {W : gW} (hW : HW W) {A : Nat → Int → Int} {P : Nat → Int → Nat} (hR : RG A) (hT : Stat W P) (hG : GL W) {x1 : Int} (rr : Rg x1) (h : (((x1 = 0) → Q (some (.int (iz (A 0 10)))) (Wm W A P)) ∧ (¬ (x1 = 0) → ((x1 = 1) → Q (some (.int (iz (A 0 11)))) (Wm W A P)) ∧ (¬ (x1 = 1) → ((x1 = 2) → Q (some (.int (iz (A 0 12)))) (Wm W A P)) ∧ (¬ (x1 = 2) → ((x1 = 3) → Q (some (.int (iz (A 0 13)))) (Wm W A P)) ∧ (¬ (x1 = 3) → ((x1 = 4) → Q (some (.int (iz (A 1 1)))) (Wm W A P)) ∧ (¬ (x1 = 4) → ((x1 = 5) → Q (some (.int (iz (A 0 14)))) (Wm W A P)) ∧ (¬ (x1 = 5) → ((x1 = 6) → (RelA W P A) ∧ Q (some (.int (iz (sm (m_lk (mo A)) (mo A 0 13).toNat)))) (Wm W A P)) ∧ (¬ (x1 = 6) → Q (some (.int (iz (-2)))) (Wm W A P)))))))))) : wpE (xT 116) (xev xT d) Q (0, [(0, .ref (lo W 0)), (1, .int (iz x1))], [], Wm W A P) := by
  refine p_ild (cc3 c116_0) rfl ?_
  refine (fun _ : Rg x1 => p_sw (cc3 c116_1) ?_) rr
  refine sw_c (n := 0) rr zl_0 (by decide) (fun c => ?_) (fun c => ?_)
  · have h := h.1 c
    refine p_ald (cc3 c116_44) rfl ?_
    refine w_geti hW (v := A 0 10) (cc3 c116_45) (st_k hT 0 12 (by decide)) (ji := 10) rfl rfl ?_
    exact p_ri (cc3 c116_48) trivial h
  · have h := h.2 c
    refine sw_c (n := 1) rr zl_1 (by decide) (fun c => ?_) (fun c => ?_)
    · have h := h.1 c
      refine p_ald (cc3 c116_49) rfl ?_
      refine w_geti hW (v := A 0 11) (cc3 c116_50) (st_k hT 0 12 (by decide)) (ji := 11) rfl rfl ?_
      exact p_ri (cc3 c116_53) trivial h
    · have h := h.2 c
      refine sw_c (n := 2) rr zl_2 (by decide) (fun c => ?_) (fun c => ?_)
      · have h := h.1 c
        refine p_ald (cc3 c116_54) rfl ?_
        refine w_geti hW (v := A 0 12) (cc3 c116_55) (st_k hT 0 12 (by decide)) (ji := 12) rfl rfl ?_
        exact p_ri (cc3 c116_58) trivial h
      · have h := h.2 c
        refine sw_c (n := 3) rr zl_3 (by decide) (fun c => ?_) (fun c => ?_)
        · have h := h.1 c
          refine p_ald (cc3 c116_59) rfl ?_
          refine w_geti hW (v := A 0 13) (cc3 c116_60) (st_k hT 0 12 (by decide)) (ji := 13) rfl rfl ?_
          exact p_ri (cc3 c116_63) trivial h
        · have h := h.2 c
          refine sw_c (n := 4) rr zl_4 (by decide) (fun c => ?_) (fun c => ?_)
          · have h := h.1 c
            refine p_ald (cc3 c116_64) rfl ?_
            refine w_getp hW hT.1 (b := 1) (cc3 c116_65) (st_k hT 0 12 (by decide)) (ji := 0) rfl (st_p hT 0 0 1 (by decide)) ?_
            refine w_geti hW (v := A 1 1) (cc3 c116_68) (st_k hT 1 9 (by decide)) (ji := 1) rfl rfl ?_
            exact p_ri (cc3 c116_71) trivial h
          · have h := h.2 c
            refine sw_c (n := 5) rr zl_5 (by decide) (fun c => ?_) (fun c => ?_)
            · have h := h.1 c
              refine p_ald (cc3 c116_72) rfl ?_
              refine w_geti hW (v := A 0 14) (cc3 c116_73) (st_k hT 0 12 (by decide)) (ji := 14) rfl rfl ?_
              exact p_ri (cc3 c116_76) trivial h
            · have h := h.2 c
              refine sw_c (n := 6) rr zl_6 (by decide) (fun c => ?_) (fun c => ?_)
              · have h := h.1 c
                refine p_ald (cc3 c116_77) rfl ?_
                obtain ⟨g1, h⟩ := h
                refine p_callV (cc3 c116_78) (Nat.le_of_ble_eq_true rfl) rfl rfl (Nat.le_of_ble_eq_true rfl) (wk_kd hW (by decide) (st_k hT 0 12 (by decide))) (S117 (Nat.le_trans (by decide) hd) hW hR hT hG g1) ?_
                exact p_ri (cc3 c116_81) trivial h
              · have h := h.2 c
                refine sw_d ?_
                refine i_push (n := (-2)) (cc3 c116_82) zl_m2 ?_
                exact p_ri (cc3 c116_84) trivial h
theorem S116 {d : Nat} (hd : 3 ≤ d) {W : gW} (hW : HW W) {A : Nat → Int → Int} {P : Nat → Int → Nat} (hR : RG A) (hT : Stat W P) (hG : GL W) {x1 : Int} (rr : Rg x1) (hp : (RelA W P A)) : xev xT d 116 [.ref (lo W 0), .int (iz x1)] (Wm W A P) (some (.int (iz (m_count (mo A) x1)))) (Wm W A P) := by
  refine xev_i (D := 2) hd (Nat.le_of_ble_eq_true rfl) (fun d hd => V116_0 hd hW hR hT hG rr ?_)

  obtain ⟨hn1, hn2, hn3, hn4, hn5, hn6⟩ := hp.cn
  repeat' (first | assumption | (refine And.intro ?_ ?_) | intro _)
  all_goals (first | assumption | rfl | omega | exact rg_bI | (refine congrArg (fun z => some (Value.int (iz z))) ?_; (try unfold m_count); (repeat' split) <;> first | rfl | omega | (exfalso; omega)))
theorem V125_0 {d : Nat} (hd : 1 ≤ d) {Q : Option Value → xM → Prop} {W : gW} (hW : HW W) {A : Nat → Int → Int} {P : Nat → Int → Nat} (hR : RG A) (hT : Stat W P) (hG : GL W) {x1 x2 : Int} (rr : Rg x1 ∧ Rg x2) (h : (((x2 < 0) → Q (some (.int (iz (-2)))) (Wm W A P)) ∧ (¬ (x2 < 0) → (((x2 < 6) → (CtO P A) ∧ (((¬ (0 ≤ x1 ∧ x1 < A 0 12)) → Q (some (.int (iz (-11)))) (Wm W A P)) ∧ (¬ (¬ (0 ≤ x1 ∧ x1 < A 0 12)) → (gK W (qK x1) = 3) ∧ (StyA A) ∧ (0 ≤ (A (qK x1) 0) ∧ (A (qK x1) 0) ≤ 5) ∧ ((¬ (kAb (A (qK x1) 0) x2) → Q (some (.int (iz (-13)))) (Wm W A P)) ∧ ((kAb (A (qK x1) 0) x2) → Q (some (.int (iz (A (qK x1) 6)))) (Wm W A P)))))) ∧ (¬ (x2 < 6) → Q (some (.int (iz (-2)))) (Wm W A P)))))) : wpE (xT 125) (xev xT d) Q (0, [(0, .ref (lo W 0)), (1, .int (iz x1)), (2, .int (iz x2))], [], Wm W A P) := by
  refine p_ild (cc3 c125_0) rfl ?_
  refine i_if (c' := x2 < 0) (cc3 c125_1) (c_lt0 rr.2) (fun c => ?_) (fun c => ?_)
  · have h := h.1 c
    refine p_lc (ls' := []) c125_10 rfl rfl ?_
    refine i_push (n := (-2)) (cct c125_10 rfl) zl_m2 ?_
    exact p_ri (cc3 c125_12) trivial h
  · have h := h.2 c
    refine p_ild (cc3 c125_4) rfl ?_
    refine i_push (n := 6) (cc3 c125_5) zl_6 ?_
    refine i_icmp (c' := x2 < 6) (cc3 c125_7) (iz_lt rr.2 (by decide : Rg (6 : Int))) (fun c => ?_) (fun c => ?_)
    · have h := h.1 c
      refine p_ald (cc3 c125_13) rfl ?_
      refine p_ild (cc3 c125_14) rfl ?_
      obtain ⟨g1, h⟩ := h
      have he := S66 (Nat.le_trans (by decide) hd) hW hR hT hG rr.1 g1
      refine nul_c (c := ¬ (0 ≤ x1 ∧ x1 < A 0 12)) he (fun c he => ?_) (fun c he => ?_) <;> refine p_callV (cc3 c125_15) (Nat.le_of_ble_eq_true rfl) rfl rfl (Nat.le_of_ble_eq_true rfl) (wk_kd hW (by decide) (st_k hT 0 12 (by decide))) he ?_
      · have h := h.1 c
        refine p_astN (ls' := [(3, .null), (0, .ref (lo W 0)), (1, .int (iz x1)), (2, .int (iz x2))]) (cc3 c125_18) (by decide) rfl ?_
        refine p_aldN (cc3 c125_19) rfl ?_
        refine p_ifnN (cc3 c125_20) ?_
        refine i_push (n := (-11)) (cc3 c125_23) zl_m11 ?_
        exact p_ri (cc3 c125_25) trivial h
      · have h := h.2 c
        refine p_ast (ls' := [(3, .ref (lo W (qK x1))), (0, .ref (lo W 0)), (1, .int (iz x1)), (2, .int (iz x2))]) (cc3 c125_18) (by decide) rfl ?_
        refine p_ald (cc3 c125_19) rfl ?_
        refine p_ifnR (cc3 c125_20) ?_
        refine p_ald (cc3 c125_26) rfl ?_
        obtain ⟨g2, h⟩ := h
        refine w_geti hW (v := A (qK x1) 0) (cc3 c125_27) g2 (ji := 0) rfl rfl ?_
        refine p_ild (cc3 c125_30) rfl ?_
        obtain ⟨g3, h⟩ := h
        obtain ⟨g4, h⟩ := h
        refine p_callS (cc3 c125_31) (Nat.le_of_ble_eq_true rfl) rfl rfl (Nat.le_of_ble_eq_true rfl) (S63 (Nat.le_trans (by decide) hd) hW hR hT hG ⟨(hR (qK x1) 0), rr.2⟩ ⟨g3, g4⟩) ?_
        refine i_ifB (cc3 c125_34) (fun c => ?_) (fun c => ?_)
        · have h := h.1 c
          refine i_push (n := (-13)) (cc3 c125_44) zl_m13 ?_
          refine p_lc (ls' := []) c125_46 rfl rfl ?_
          exact p_ri (cct c125_46 rfl) trivial h
        · have h := h.2 c
          refine p_ald (cc3 c125_37) rfl ?_
          refine w_geti hW (v := A (qK x1) 6) (cc3 c125_38) g2 (ji := 6) rfl rfl ?_
          refine p_goto (cc3 c125_41) ?_
          refine p_lc (ls' := []) c125_46 rfl rfl ?_
          exact p_ri (cct c125_46 rfl) trivial h
    · have h := h.2 c
      refine p_lc (ls' := []) c125_10 rfl rfl ?_
      refine i_push (n := (-2)) (cct c125_10 rfl) zl_m2 ?_
      exact p_ri (cc3 c125_12) trivial h
theorem S125 {d : Nat} (hd : 2 ≤ d) {W : gW} (hW : HW W) {A : Nat → Int → Int} {P : Nat → Int → Nat} (hR : RG A) (hT : Stat W P) (hG : GL W) {x1 x2 : Int} (rr : Rg x1 ∧ Rg x2) (hp : (RelA W P A)) : xev xT d 125 [.ref (lo W 0), .int (iz x1), .int (iz x2)] (Wm W A P) (some (.int (iz (m_taken (mo A) x1 x2)))) (Wm W A P) := by
  refine xev_i (D := 1) hd (Nat.le_of_ble_eq_true rfl) (fun d hd => V125_0 hd hW hR hT hG rr ?_)

  have hct := hp.cto
  obtain ⟨hn1, hn2, hn3, hn4, hn5, hn6⟩ := hp.cn
  have hcs := hct.1
  by_cases q : 0 ≤ x1 ∧ x1 < A 0 12
  · obtain ⟨hO, hB, ⟨n0, n1, n2, n3, n4, n5, n6, n7, n8, n9, n12⟩, hU, hL, hN⟩ := hp.ki q.1 (by omega)
    have k3 := hO.1
    have k10 := hO.2.1
    have hOL := hO.2.2.1
    have k5 := hO.2.2.1.1.1
    have ho4 := hO.2.2.2.1
    have ho8 := hO.2.2.2.2.1
    have ho := hO.2.2.2.2.2.2
    by_cases hl : mo A 20 x1 < 0
    · obtain ⟨u1, u2, u3, u4⟩ := hU hl
      have hs := hp.st.sty
      have hst : 0 ≤ A (qK x1) 0 ∧ A (qK x1) 0 ≤ 5 := by omega
      repeat' (first | assumption | (refine And.intro ?_ ?_) | intro _)
      all_goals (first | assumption | rfl | omega | exact rg_bI | (refine congrArg (fun z => some (Value.int (iz z))) ?_; (try unfold m_taken); (repeat' split) <;> first | rfl | omega | (exfalso; omega)))
    · obtain ⟨v1, v2, v3, v4, v5, v6, v7, v8, v9⟩ := hL (by omega)
      have hs := hp.st.sty
      have hst : 0 ≤ A (qK x1) 0 ∧ A (qK x1) 0 ≤ 5 := by omega
      repeat' (first | assumption | (refine And.intro ?_ ?_) | intro _)
      all_goals (first | assumption | rfl | omega | exact rg_bI | (refine congrArg (fun z => some (Value.int (iz z))) ?_; (try unfold m_taken); (repeat' split) <;> first | rfl | omega | (exfalso; omega)))
  · repeat' (first | assumption | (refine And.intro ?_ ?_) | intro _)
    all_goals (first | assumption | rfl | omega | exact rg_bI | (refine congrArg (fun z => some (Value.int (iz z))) ?_; (try unfold m_taken); (repeat' split) <;> first | rfl | omega | (exfalso; omega)))
