theorem V38_0 {d : Nat} (hd : 3 ≤ d) {Q : Option Value → xM → Prop} {W : gW} (hW : HW W) {A : Nat → Int → Int} {P : Nat → Int → Nat} (hR : RG A) (hT : Stat W P) (hG : GL W) (h : ((((A 0 10) < 4) → (∀ (r_1 : Int) (A_1 : Nat → Int → Int), Rg r_1 → RG A_1 → (RdK A A_1 r_1) → (((r_1 = (-1)) → (1 ≤ (UA A_1 1 1 0) 3 2 ∧ (UA A_1 1 1 0) 3 2 ≤ 10) ∧ (∀ i : Int, 0 ≤ i → i < (UA A_1 1 1 0) 3 2 → 0 ≤ (UA A_1 1 1 0) 5 i ∧ (UA A_1 1 1 0) 5 i ≤ 999) ∧ ((((sm (perK (UA A_1 1 1 0)) ((UA A_1 1 1 0) 3 2).toNat) ≤ 400) → wpE (xT 38) (xev xT d) Q (57, [(1, .int (iz r_1)), (0, .ref (lo W 0))], [], Wm W (UA A_1 1 1 0) P)) ∧ (¬ ((sm (perK (UA A_1 1 1 0)) ((UA A_1 1 1 0) 3 2).toNat) ≤ 400) → Q (some (.int (iz (-9)))) (Wm W (UA A_1 1 1 0) P)))) ∧ (¬ (r_1 = (-1)) → (Rg ((-100) - r_1)) ∧ Q (some (.int (iz ((-100) - r_1)))) (Wm W (UA A_1 1 1 0) P))))) ∧ (¬ ((A 0 10) < 4) → Q (some (.int (iz (-4)))) (Wm W A P)))) : wpE (xT 38) (xev xT d) Q (0, [(0, .ref (lo W 0))], [], Wm W A P) := by
  refine p_ald (cc3 c38_0) rfl ?_
  refine w_geti hW (v := A 0 10) (cc3 c38_1) (st_k hT 0 12 (by decide)) (ji := 10) rfl rfl ?_
  refine i_push (n := 4) (cc3 c38_4) zl_4 ?_
  refine i_icmp (c' := (A 0 10) < 4) (cc3 c38_5) (iz_lt (hR 0 10) (by decide : Rg (4 : Int))) (fun c => ?_) (fun c => ?_)
  · have h := h.1 c
    refine p_ald (cc3 c38_11) rfl ?_
    refine w_getp hW hT.1 (b := 3) (cc3 c38_12) (st_k hT 0 12 (by decide)) (ji := 1) rfl (st_p hT 0 1 3 (by decide)) ?_
    refine p_ald (cc3 c38_15) rfl ?_
    refine w_getp hW hT.1 (b := 1) (cc3 c38_16) (st_k hT 0 12 (by decide)) (ji := 0) rfl (st_p hT 0 0 1 (by decide)) ?_
    obtain ⟨r_1, A_1, he, hr_1, hR_1, hp_1⟩ := S39 (A := A) (P := P) (Nat.le_trans (by decide) hd) hW hR hT hG
    have h := h r_1 A_1 hr_1 hR_1 hp_1
    refine p_callV (cc3 c38_19) (Nat.le_of_ble_eq_true rfl) rfl rfl (Nat.le_of_ble_eq_true rfl) (wk_kd hW (by decide) (st_k hT 3 7 (by decide))) he ?_
    refine p_ist (ls' := [(1, .int (iz r_1)), (0, .ref (lo W 0))]) (cc3 c38_22) (by decide) rfl ?_
    refine p_ald (cc3 c38_23) rfl ?_
    refine w_getp hW hT.1 (b := 1) (cc3 c38_24) (st_k hT 0 12 (by decide)) (ji := 0) rfl (st_p hT 0 0 1 (by decide)) ?_
    refine i_push (n := 0) (cc3 c38_27) zl_0 ?_
    refine id (α := Rg 0 → _) (fun _ => ?_) (by decide : Rg (0 : Int)); refine w_puti hW (cc3 c38_28) (st_k hT 1 9 (by decide)) (ji := 1) rfl ?_
    refine p_ild (cc3 c38_31) rfl ?_
    refine i_push (n := (-1)) (cc3 c38_32) zl_m1 ?_
    refine i_icmp (c' := r_1 = (-1)) (cc3 c38_33) (iz_inj hr_1 (by decide : Rg (-1 : Int))) (fun c => ?_) (fun c => ?_)
    · have h := h.1 c
      refine p_ald (cc3 c38_41) rfl ?_
      refine w_getp hW hT.1 (b := 3) (cc3 c38_42) (st_k hT 0 12 (by decide)) (ji := 1) rfl (st_p hT 0 1 3 (by decide)) ?_
      obtain ⟨g1, h⟩ := h
      obtain ⟨g2, h⟩ := h
      refine p_callV (cc3 c38_45) (Nat.le_of_ble_eq_true rfl) rfl rfl (Nat.le_of_ble_eq_true rfl) (wk_kd hW (by decide) (st_k hT 3 7 (by decide))) (S41 (Nat.le_trans (by decide) hd) hW (rg_UA hR_1 (by decide : Rg (0 : Int))) hT hG ⟨g1, g2⟩) ?_
      refine i_push (n := 400) (cc3 c38_48) zl_400 ?_
      refine i_icmp (c' := (sm (perK (UA A_1 1 1 0)) ((UA A_1 1 1 0) 3 2).toNat) ≤ 400) (cc3 c38_51) (iz_le (rg_per ⟨g1, g2⟩) (by decide : Rg (400 : Int))) (fun c => ?_) (fun c => ?_)
      · have h := h.1 c
        exact h
      · have h := h.2 c
        refine i_push (n := (-9)) (cc3 c38_54) zl_m9 ?_
        exact p_ri (cc3 c38_56) trivial h
    · have h := h.2 c
      refine i_push (n := (-100)) (cc3 c38_36) zl_m100 ?_
      refine p_ild (cc3 c38_38) rfl ?_
      obtain ⟨g1, h⟩ := h
      refine (fun _ : Rg ((-100) - r_1) => i_sub (cc3 c38_39) ?_) g1
      exact p_ri (cc3 c38_40) trivial h
  · have h := h.2 c
    refine i_push (n := (-4)) (cc3 c38_8) zl_m4 ?_
    exact p_ri (cc3 c38_10) trivial h
theorem V38_60 {d : Nat} (hd : 3 ≤ d) {Q : Option Value → xM → Prop} {W : gW} (hW : HW W) {A : Nat → Int → Int} {P : Nat → Int → Nat} (hR : RG A) (hT : Stat W P) (hG : GL W) {x1 : Int} {b0 : Nat} (rr : Rg x1) (h : wpE (xT 38) (xev xT d) Q (65, [(1, .int (iz x1)), (0, .ref (lo W 0))], [.ref (lo W 3), .ref (lo W b0), .ref (lo W b0)], Wm W A P)) : wpE (xT 38) (xev xT d) Q (60, [(1, .int (iz x1)), (0, .ref (lo W 0))], [.ref (lo W b0)], Wm W A P) := by
  refine p_dup (cc3 c38_60) rfl ?_
  refine p_ald (cc3 c38_61) rfl ?_
  refine w_getp hW hT.1 (b := 3) (cc3 c38_62) (st_k hT 0 12 (by decide)) (ji := 1) rfl (st_p hT 0 1 3 (by decide)) ?_
  exact h
theorem V38_68 {d : Nat} (hd : 3 ≤ d) {Q : Option Value → xM → Prop} {W : gW} (hW : HW W) {A : Nat → Int → Int} {P : Nat → Int → Nat} (hR : RG A) (hT : Stat W P) (hG : GL W) {x1 : Int} {b0 : Nat} (rr : Rg x1) (h : ((((A 0 10) = 0) → wpE (xT 38) (xev xT d) Q (77, [(2, .ref (lo W b0)), (1, .int (iz x1)), (0, .ref (lo W 0))], [.ref (lo W 0)], Wm W A P)) ∧ (¬ ((A 0 10) = 0) → (0 ≤ (A 0 10) ∧ (A 0 10) < 4) ∧ (gK W b0 = 6) ∧ (Rg ((A 0 10) + 1)) ∧ (Rg (((A 0 10) + 1) - 1)) ∧ Q (some (.int (iz (((A 0 10) + 1) - 1)))) (Wm W (UA A 0 10 ((A 0 10) + 1)) (UP P 16 (A 0 10) (b0 + 1)))))) : wpE (xT 38) (xev xT d) Q (68, [(1, .int (iz x1)), (0, .ref (lo W 0))], [.ref (lo W b0)], Wm W A P) := by
  refine p_ast (ls' := [(2, .ref (lo W b0)), (1, .int (iz x1)), (0, .ref (lo W 0))]) (cc3 c38_68) (by decide) rfl ?_
  refine p_ald (cc3 c38_69) rfl ?_
  refine w_geti hW (v := A 0 10) (cc3 c38_70) (st_k hT 0 12 (by decide)) (ji := 10) rfl rfl ?_
  refine i_if (c' := (A 0 10) = 0) (cc3 c38_73) (c_eq0 (hR 0 10)) (fun c => ?_) (fun c => ?_)
  · have h := h.1 c
    refine p_ald (cc3 c38_76) rfl ?_
    exact h
  · have h := h.2 c
    refine p_lc (ls' := [(0, .ref (lo W 0)), (2, .ref (lo W b0))]) c38_92 rfl rfl ?_
    refine p_ald (cct c38_92 rfl) rfl ?_
    refine w_getp hW hT.1 (b := 16) (cc3 c38_93) (st_k hT 0 12 (by decide)) (ji := 5) rfl (st_p hT 0 5 16 (by decide)) ?_
    refine p_ald (cc3 c38_96) rfl ?_
    refine w_geti hW (v := A 0 10) (cc3 c38_97) (st_k hT 0 12 (by decide)) (ji := 10) rfl rfl ?_
    refine p_ald (cc3 c38_100) rfl ?_
    obtain ⟨g1, h⟩ := h
    obtain ⟨g2, h⟩ := h
    refine w_astp hW (cc3 c38_101) (st_k hT 16 23 (by decide)) (st_i hT 16 4 (by decide) g1) g2 ?_
    refine p_ald (cc3 c38_102) rfl ?_
    refine p_dup (cc3 c38_103) rfl ?_
    refine w_geti hW (v := A 0 10) (cc3 c38_104) (st_k (Stat.up (v := b0 + 1) hT (po_r (c := 16) (j := A 0 10) (by decide)) (Or.inr (kn g2))) 0 12 (by decide)) (ji := 10) rfl rfl ?_
    refine i_push (n := 1) (cc3 c38_107) zl_1 ?_
    obtain ⟨g3, h⟩ := h
    refine (fun _ : Rg ((A 0 10) + 1) => i_add (cc3 c38_108) ?_) g3
    refine id (α := Rg ((A 0 10) + 1) → _) (fun _ => ?_) g3; refine w_puti hW (cc3 c38_109) (st_k (Stat.up (v := b0 + 1) hT (po_r (c := 16) (j := A 0 10) (by decide)) (Or.inr (kn g2))) 0 12 (by decide)) (ji := 10) rfl ?_
    refine p_ald (cc3 c38_112) rfl ?_
    refine w_geti hW (v := (A 0 10) + 1) (cc3 c38_113) (st_k (Stat.up (v := b0 + 1) hT (po_r (c := 16) (j := A 0 10) (by decide)) (Or.inr (kn g2))) 0 12 (by decide)) (ji := 10) rfl (by first | rfl | exact UA_eq | exact UA_j (by decide) | exact UA_c (by decide) | simp [UA]) ?_
    refine i_push (n := 1) (cc3 c38_116) zl_1 ?_
    obtain ⟨g4, h⟩ := h
    refine (fun _ : Rg (((A 0 10) + 1) - 1) => i_sub (cc3 c38_117) ?_) g4
    exact p_ri (cc3 c38_118) trivial h
theorem V38_80 {d : Nat} (hd : 3 ≤ d) {Q : Option Value → xM → Prop} {W : gW} (hW : HW W) {A : Nat → Int → Int} {P : Nat → Int → Nat} (hR : RG A) (hT : Stat W P) (hG : GL W) {x1 : Int} {a2 b0 : Nat} (rr : Rg x1) (h : wpE (xT 38) (xev xT d) Q (86, [(2, .ref (lo W a2)), (1, .int (iz x1)), (0, .ref (lo W 0))], [.int (iz 9999), .int (iz 0), .ref (lo W a2), .ref (lo W b0), .ref (lo W b0), .ref (lo W 0)], Wm W A P)) : wpE (xT 38) (xev xT d) Q (80, [(2, .ref (lo W a2)), (1, .int (iz x1)), (0, .ref (lo W 0))], [.ref (lo W b0), .ref (lo W 0)], Wm W A P) := by
  refine p_dup (cc3 c38_80) rfl ?_
  refine p_ald (cc3 c38_81) rfl ?_
  refine i_push (n := 0) (cc3 c38_82) zl_0 ?_
  refine i_push (n := 9999) (cc3 c38_83) zl_9999 ?_
  exact h
theorem V38_89 {d : Nat} (hd : 3 ≤ d) {Q : Option Value → xM → Prop} {W : gW} (hW : HW W) {A : Nat → Int → Int} {P : Nat → Int → Nat} (hR : RG A) (hT : Stat W P) (hG : GL W) {x1 : Int} {a2 b0 : Nat} (rr : Rg x1) (h : (NZ W b0) ∧ (0 ≤ (A 0 10) ∧ (A 0 10) < 4) ∧ (gK W a2 = 6) ∧ (Rg ((A 0 10) + 1)) ∧ (Rg (((A 0 10) + 1) - 1)) ∧ Q (some (.int (iz (((A 0 10) + 1) - 1)))) (Wm W (UA A 0 10 ((A 0 10) + 1)) (UP (UP P 0 15 (b0 + 1)) 16 (A 0 10) (a2 + 1)))) : wpE (xT 38) (xev xT d) Q (89, [(2, .ref (lo W a2)), (1, .int (iz x1)), (0, .ref (lo W 0))], [.ref (lo W b0), .ref (lo W 0)], Wm W A P) := by
  obtain ⟨g1, h⟩ := h
  refine w_putp hW (cc3 c38_89) (st_k hT 0 12 (by decide)) (ji := 15) rfl g1 ?_
  refine p_lc (ls' := [(0, .ref (lo W 0)), (2, .ref (lo W a2))]) c38_92 rfl rfl ?_
  refine p_ald (cct c38_92 rfl) rfl ?_
  refine w_getp hW (Stat.up (v := b0 + 1) (c := 0) (j := 15) hT (po_l (c := 0) (j := 15) (by decide)) (Or.inr g1)).1 (b := 16) (cc3 c38_93) (st_k (Stat.up (v := b0 + 1) (c := 0) (j := 15) hT (po_l (c := 0) (j := 15) (by decide)) (Or.inr g1)) 0 12 (by decide)) (ji := 5) rfl (st_p (Stat.up (v := b0 + 1) (c := 0) (j := 15) hT (po_l (c := 0) (j := 15) (by decide)) (Or.inr g1)) 0 5 16 (by decide)) ?_
  refine p_ald (cc3 c38_96) rfl ?_
  refine w_geti hW (v := A 0 10) (cc3 c38_97) (st_k (Stat.up (v := b0 + 1) (c := 0) (j := 15) hT (po_l (c := 0) (j := 15) (by decide)) (Or.inr g1)) 0 12 (by decide)) (ji := 10) rfl rfl ?_
  refine p_ald (cc3 c38_100) rfl ?_
  obtain ⟨g2, h⟩ := h
  obtain ⟨g3, h⟩ := h
  refine w_astp hW (cc3 c38_101) (st_k (Stat.up (v := b0 + 1) (c := 0) (j := 15) hT (po_l (c := 0) (j := 15) (by decide)) (Or.inr g1)) 16 23 (by decide)) (st_i (Stat.up (v := b0 + 1) (c := 0) (j := 15) hT (po_l (c := 0) (j := 15) (by decide)) (Or.inr g1)) 16 4 (by decide) g2) g3 ?_
  refine p_ald (cc3 c38_102) rfl ?_
  refine p_dup (cc3 c38_103) rfl ?_
  refine w_geti hW (v := A 0 10) (cc3 c38_104) (st_k (Stat.up (v := a2 + 1) (Stat.up (v := b0 + 1) (c := 0) (j := 15) hT (po_l (c := 0) (j := 15) (by decide)) (Or.inr g1)) (po_r (c := 16) (j := A 0 10) (by decide)) (Or.inr (kn g3))) 0 12 (by decide)) (ji := 10) rfl rfl ?_
  refine i_push (n := 1) (cc3 c38_107) zl_1 ?_
  obtain ⟨g4, h⟩ := h
  refine (fun _ : Rg ((A 0 10) + 1) => i_add (cc3 c38_108) ?_) g4
  refine id (α := Rg ((A 0 10) + 1) → _) (fun _ => ?_) g4; refine w_puti hW (cc3 c38_109) (st_k (Stat.up (v := a2 + 1) (Stat.up (v := b0 + 1) (c := 0) (j := 15) hT (po_l (c := 0) (j := 15) (by decide)) (Or.inr g1)) (po_r (c := 16) (j := A 0 10) (by decide)) (Or.inr (kn g3))) 0 12 (by decide)) (ji := 10) rfl ?_
  refine p_ald (cc3 c38_112) rfl ?_
  refine w_geti hW (v := (A 0 10) + 1) (cc3 c38_113) (st_k (Stat.up (v := a2 + 1) (Stat.up (v := b0 + 1) (c := 0) (j := 15) hT (po_l (c := 0) (j := 15) (by decide)) (Or.inr g1)) (po_r (c := 16) (j := A 0 10) (by decide)) (Or.inr (kn g3))) 0 12 (by decide)) (ji := 10) rfl (by first | rfl | exact UA_eq | exact UA_j (by decide) | exact UA_c (by decide) | simp [UA]) ?_
  refine i_push (n := 1) (cc3 c38_116) zl_1 ?_
  obtain ⟨g5, h⟩ := h
  refine (fun _ : Rg (((A 0 10) + 1) - 1) => i_sub (cc3 c38_117) ?_) g5
  exact p_ri (cc3 c38_118) trivial h
/-- a sett that is made: its numbers on both sides -/
theorem set_new {W : gW} {P : Nat → Int → Nat} {A1 A2 M M' : Nat → Int → Int} {s : Int} {K p : Nat} (hO : OSt W P A2 (qS s)) (h0 : A2 (qS s) 0 = ((K + 1 : Nat) : Int) ∧ A2 (qS s) 1 = (p : Int) ∧ A2 (qS s) 2 = A1 3 3) (hk : ∀ k : Int, 0 ≤ k → k < ((K + 1 : Nat) : Int) → A2 (qS s + 1) k = A1 4 k ∧ A2 (qS s + 2) k = A1 5 k) (hF : SeF A2 (qS s) ((K + 1 : Nat) : Int) p) (hC : SeC A2 (qS s) ((K + 1 : Nat) : Int)) (h33 : A1 3 3 = if M 1 (srE (M 1) (M 0 1) (srq (M 1) (M 0 1) K)) = 47 then 1 else 0) (hE : ∀ j : Nat, j < K + 1 → A1 4 j = M 1 (srq (M 1) (M 0 1) j) - 97 ∧ A1 5 j = cv (M 1) (M 0 1) (srq (M 1) (M 0 1) j + 1)) (hc : ∀ k : Int, 0 ≤ k → k < ((K + 1 : Nat) : Int) → (0 ≤ A1 4 k ∧ A1 4 k ≤ 7) ∧ 1 ≤ A1 5 k ∧ A1 5 k ≤ 999) (hK : K ≤ 9) (hp : (p : Int) = srPer (M 1) (M 0 1) K) (hp1 : 1 ≤ (p : Int) ∧ (p : Int) ≤ 400)
    (h3 : M' 3 s = srPer (M 1) (M 0 1) K) (h2 : M' 2 s = (K : Int) + 1) (h6 : M' 6 s = bI (M 1 (srE (M 1) (M 0 1) (srq (M 1) (M 0 1) K)) = 47)) (hr : srRead M M' s K) : RSe W P A2 M' s ∧ SettOK M' s := by
  have eE : ∀ k : Int, 0 ≤ k → k < ((K + 1 : Nat) : Int) → M' 4 (10 * s + k) = A1 4 k ∧ M' 5 (10 * s + k) = A1 5 k := fun k k0 k1 => by
    obtain ⟨j, rfl⟩ : ∃ j : Nat, k = (j : Int) := ⟨k.toNat, by omega⟩
    obtain ⟨q1, q2⟩ := hr j (by omega)
    obtain ⟨q3, q4⟩ := hE j (by omega)
    rw [q1, q2, q3, q4]; exact ⟨rfl, rfl⟩
  have e33 : A1 3 3 = M' 6 s := by
    rw [h33, h6]; rfl
  have eW : ∀ k : Int, 0 ≤ k → k < ((K + 1 : Nat) : Int) → A2 (qS s + 2) k = m_w M' s k := fun k k0 k1 => by rw [(hk k k0 k1).2, ← (eE k k0 k1).2]; rfl
  have eC : ∀ k : Int, 0 ≤ k → k < ((K + 1 : Nat) : Int) → A2 (qS s + 1) k = m_c M' s k := fun k k0 k1 => by rw [(hk k k0 k1).1, ← (eE k k0 k1).1]; rfl
  have h2' : M' 2 s = ((K + 1 : Nat) : Int) := by rw [h2]; omega
  refine ⟨⟨hO, ⟨by rw [h0.1, h2'], by rw [h0.2.1, h3, hp], by rw [h0.2.2, e33]⟩, fun k k0 k1 => ?_, fun x x0 x1 => ?_⟩, ⟨by rw [h2']; omega, by rw [h3, ← hp]; exact hp1, by rw [h6]; exact bI_01, fun k k0 k1 => ?_, ?_⟩⟩
  · rw [h2'] at k1
    refine ⟨by rw [(hk k k0 k1).1, (eE k k0 k1).1], by rw [(hk k k0 k1).2, (eE k k0 k1).2], ?_⟩
    obtain ⟨j, rfl⟩ : ∃ j : Nat, k = (j : Int) := ⟨k.toNat, by omega⟩
    rw [hC j k1]
    unfold m_centre
    rw [Int.toNat_natCast, ← eW j k0 k1, sm_congr (fun i hi => (eW i (by omega) (by omega)).symm)]
  · rw [h3, ← hp] at x1
    rw [hF x x0 x1]
    unfold m_col
    rw [h2', h3, ← hp, tmod_pos x0, Int.emod_eq_of_lt x0 x1]
    exact cF_congr _ _ _ (Int.le_refl 0) (by omega) (fun i i0 i1 => ⟨eW i i0 i1, eC i i0 i1⟩)
  · rw [h2'] at k1
    rw [(eE k k0 k1).1, (eE k k0 k1).2]
    exact hc k k0 k1
  · rw [h3]
    unfold m_per srPer
    rw [h2', Int.toNat_natCast]
    refine sm_congr (fun k hk' => ?_)
    obtain ⟨q1, q2⟩ := hr k (by omega)
    show cv _ _ _ * _ = M' 5 (10 * s + k) * _
    rw [q2, h6, Int.toNat_natCast]
    by_cases c : M 1 (srE (M 1) (M 0 1) (srq (M 1) (M 0 1) K)) = 47
    · rw [bI_t c]
      by_cases c2 : 0 < (k : Int) ∧ (k : Int) < K
      · rw [if_pos ⟨c, c2⟩, if_pos ⟨rfl, c2.1, by omega⟩]
      · rw [if_neg (fun z => c2 z.2), if_neg (fun z => c2 ⟨z.2.1, by omega⟩)]
    · rw [bI_f c, if_neg (fun z => c z.1), if_neg (fun z => absurd z.1 (by decide))]
/-- after a sett that is made -/
theorem Rel.seton {W W' : gW} {P P' : Nat → Int → Nat} {A A' M M' : Nat → Int → Int} (h : Rel W P A M) {N : Nat → Prop} (hN : ∀ c, N c → gK W c = 0 ∧ 100 ≤ c ∧ c < 500) (eN : ∀ c, ¬ N c → gK W' c = gK W c ∧ gL W' c = gL W c ∧ lo W' c = lo W c) (hNr : ∀ c, N c → (qS (M 0 2) ≤ c ∧ c < qS (M 0 2) + 5) ∨ (M 0 2 = 0 ∧ 240 ≤ c ∧ c < 242)) (eP : ∀ c, ¬ c = 0 → ¬ c = 16 → ¬ N c → P' c = P c) (eA : ∀ c, ¬ c = 0 → ¬ c = 1 → ¬ c = 3 → ¬ c = 4 → ¬ c = 5 → ¬ N c → A' c = A c) (a0 : ∀ j : Int, ¬ j = 10 → A' 0 j = A 0 j) (a10 : A' 0 10 = A 0 10 + 1) (a11 : A' 1 1 = 0) (n4 : M 0 2 < 4) (p16 : ∀ s : Int, ¬ s = M 0 2 → P' 16 s = P 16 s) (p16n : P' 16 (M 0 2) = qS (M 0 2) + 1) (p15 : 0 < M 0 2 → P' 0 15 = P 0 15) (wb0 : M 0 2 = 0 → P' 0 15 = 240 + 1 ∧ OBt W' P' A' 240 ∧ A' 240 2 = 9999 ∧ A' 240 4 = 0 ∧ P' 240 0 = 100 + 1) (hS : SFr (M 0 2) [1, 2, 46] M M') (h01 : M' 0 1 = 0) (h02 : M' 0 2 = M 0 2 + 1) (hse : RSe W' P' A' M' (M 0 2) ∧ SettOK M' (M 0 2)) : Rel W' P' A' M' := by
  obtain ⟨hn1, hn2, hn3, hn4, hn5, hn6⟩ := h.cn
  have s0 := h.ok.1.1
  have qs := qS_d (s := M 0 2)
  have mr : ∀ c, c ∉ [2, 3, 4, 5, 6] → ¬ c = 0 → M' c = M c := hS.1.1
  have m0 : ∀ j : Int, j ∉ [1, 2, 46] → M' 0 j = M 0 j := hS.1.2
  have eS : ∀ s : Int, 0 ≤ s → s < M 0 2 → eqS M M' s := fun s s0 s1 => ⟨hS.2.1 2 (by decide) s (by omega), hS.2.1 3 (by decide) s (by omega), hS.2.1 6 (by decide) s (by omega), fun k k0 k1 => ⟨hS.2.2 4 (by decide) _ (by omega), hS.2.2 5 (by decide) _ (by omega)⟩⟩
  have nN : ∀ c, c < 100 → ¬ N c := fun c q z => by have := (hN c z).2.1; omega
  refine h.fin hN eN (fun c q z => eP c (by omega) (by omega) z) (fun c q z => eA c (by omega) (by omega) (by omega) (by omega) (by omega) z) eS (fun b => eqB_r (fun c hc => mr c (by revert hc; simp; omega) (by revert hc; simp; omega)) b) (fun k => ⟨eqK_r (fun c hc => mr c (by revert hc; simp; omega) (by revert hc; simp; omega)) k, eqL_r (fun c hc => mr c (by revert hc; simp; omega) (by revert hc; simp; omega)) k⟩) (fun t _ _ => eqT_r (fun c hc => mr c (by revert hc; simp; omega) (by revert hc; simp; omega)) t) (fun s => eqH_r (fun c hc => mr c (by revert hc; simp; omega) (by revert hc; simp; omega)) s) ⟨eP 17 (by decide) (by decide) (nN _ (by decide)), eP 18 (by decide) (by decide) (nN _ (by decide))⟩ (fun s _ s1 => p16 s (by omega)) (fun t _ _ => by rw [eP 19 (by decide) (by decide) (nN _ (by decide))]) ⟨a0 11 (by decide), a0 12 (by decide), a0 14 (by decide)⟩ (by rw [a10, h02, hn1]) (by rw [a0 13 (by decide), m0 42 (by decide), hn4]) a11 ⟨m0 8 (by decide), m0 13 (by decide), m0 43 (by decide), h01⟩ (mr 1 (by decide) (by decide)) (mr 41 (by decide) (by decide)) ⟨mr 43 (by decide) (by decide), mr 44 (by decide) (by decide)⟩ (Or.inr ⟨h02, n4, p16n, hse.1, hse.2⟩) (Or.inl (m0 42 (by decide))) ?_ ?_
  · refine ⟨fun z => by omega, fun _ => ?_⟩
    by_cases e : M 0 2 = 0
    · exact wb0 e
    · have pos : 0 < M 0 2 := by omega
      obtain ⟨h1, h2, h3, h4, h5⟩ := h.wb.2 pos
      have nn : ∀ c, c = 240 ∨ c = 240 + 1 → ¬ N c := fun c hc z => by rcases hNr c z with q | q <;> omega
      refine ⟨by rw [p15 pos]; exact h1, h2.same (fun c q1 q2 => ?_), by rw [eA 240 (by decide) (by decide) (by decide) (by decide) (by decide) (nn _ (Or.inl rfl))]; exact h3, by rw [eA 240 (by decide) (by decide) (by decide) (by decide) (by decide) (nn _ (Or.inl rfl))]; exact h4, by rw [eP 240 (by decide) (by decide) (nn _ (Or.inl rfl))]; exact h5⟩
      have z := nn c (by omega)
      exact ⟨(eN c z).1, (eN c z).2.1, eP c (by omega) (by omega) z, eA c (by omega) (by omega) (by omega) (by omega) (by omega) z⟩
  · obtain ⟨w1, w2, w3, w4, w5⟩ := h.fr
    unfold RFr
    rw [h02, m0 8 (by decide), m0 13 (by decide), m0 42 (by decide)]
    have out : ∀ c, ¬ N c → gK W c = 0 → gK W' c = 0 := fun c z q => by rw [(eN c z).1]; exact q
    refine ⟨fun c z1 z2 => out c (fun z => ?_) (w1 c (by omega) z2), fun c z1 z2 => out c (fun z => ?_) (w2 c z1 z2), fun z0 => by omega, fun c z1 z2 => out c (fun z => ?_) (w4 c z1 z2), fun c z1 z2 => out c (fun z => ?_) (w5 c z1 z2)⟩
    all_goals rcases hNr c z with q | q <;> omega
