section OLD
variable {W W' : gW} {P P' : Nat → Int → Nat} {A A' M M' : Nat → Int → Int}
theorem Rel.old (h : Rel W P A M) {N : Nat → Prop} (hN : ∀ c, N c → gK W c = 0 ∧ 100 ≤ c ∧ c < 500) (eN : ∀ c, ¬ N c → gK W' c = gK W c ∧ gL W' c = gL W c ∧ lo W' c = lo W c) (eP : ∀ c, 20 ≤ c → ¬ N c → P' c = P c) (eA : ∀ c, 8 ≤ c → ¬ N c → A' c = A c) (eS : ∀ s : Int, 0 ≤ s → s < M 0 2 → eqS M M' s) (eB : ∀ b : Int, 0 ≤ b → b < M 0 8 → eqB M M' b) (eK : ∀ k : Int, 0 ≤ k → k < M 0 13 → eqK M M' k ∧ eqL M M' k) (eT : ∀ t : Int, 0 ≤ t → t < M 0 42 → eqT M M' t) (eH : ∀ s : Int, 0 ≤ s → s < 4 → eqH M M' s) (e02 : M 0 2 ≤ M' 0 2) (e19 : ∀ t : Int, 0 ≤ t → t < M 0 42 → P' 19 t = P 19 t) :
    (∀ s : Int, 0 ≤ s → s < M 0 2 → RSe W' P' A' M' s) ∧ (∀ b : Int, 0 ≤ b → b < M 0 8 → RBo W' P' A' M' b) ∧ (∀ k : Int, 0 ≤ k → k < M 0 13 → RKi W' P' A' M' k) ∧ (∀ t : Int, 0 ≤ t → t < M 0 42 → RTx W' P' A' M' t) ∧ (∀ s : Int, 0 ≤ s → s < 4 → RSh W' P' A' M' s) ∧ A' 14 = A 14 ∧ StrA A' ∧ RMo W' P' := by
  have nN : ∀ {c k : Nat}, gK W c = k → ¬ k = 0 → ¬ N c := fun e z q => z (e.symm.trans (hN _ q).1)
  have ag : ∀ x n : Nat, 20 ≤ x → (∀ c, x ≤ c → c < x + n → ¬ N c) → AgR W W' P P' A A' x n := fun x n hx q c q1 q2 => ⟨(eN c (q c q1 q2)).1, (eN c (q c q1 q2)).2.1, eP c (by omega) (q c q1 q2), eA c (by omega) (q c q1 q2)⟩
  refine ⟨fun s s0 s1 => ?_, fun b b0 b1 => ?_, fun k k0 k1 => ?_, fun t t0 t1 => ?_, fun s s0 s1 => ?_, ?_, ?_, ?_, ?_⟩
  · have hs := h.se s0 s1
    obtain ⟨z0, z1, z2, z3, z4⟩ := hs.1.1
    have qs := qS_d (s := s)
    refine hs.same (ag _ _ (by omega) (fun c q1 q2 => ?_)) (eS s s0 s1)
    rcases (by omega : c = qS s ∨ c = qS s + 1 ∨ c = qS s + 2 ∨ c = qS s + 3 ∨ c = qS s + 4) with e | e | e | e | e <;> subst e
    · exact nN z0 (by decide)
    · exact nN z1 (by decide)
    · exact nN z2 (by decide)
    · exact nN z3 (by decide)
    · exact nN z4 (by decide)
  · have hb := h.bo b0 b1
    obtain ⟨z0, z1⟩ := hb.1.1
    have qb := qB_d (s := b)
    refine hb.same (ag _ _ (by omega) (fun c q1 q2 => ?_)) (eB b b0 b1)
    rcases (by omega : c = qB b ∨ c = qB b + 1) with e | e <;> subst e
    · exact nN z0 (by decide)
    · exact nN z1 (by decide)
  · have hk := h.ki k0 k1
    obtain ⟨z1, z2, z3⟩ := hk.1.2.2.1.1
    have qk := qK_d (s := k)
    refine hk.same (ag _ _ (by omega) (fun c q1 q2 => ?_)) (h.ok.2.2.1.2 k k0 k1).1 (eK k k0 k1).1 (eK k k0 k1).2 (fun q => ⟨by omega, eS 0 (Int.le_refl 0) q⟩)
    rcases (by omega : c = qK k ∨ c = qK k + 1 ∨ c = qK k + 1 + 1 ∨ c = qK k + 1 + 2) with e | e | e | e <;> subst e
    · exact nN hk.1.1 (by decide)
    · exact nN z1 (by decide)
    · exact nN z2 (by decide)
    · exact nN z3 (by decide)
  · have ht := h.tx t0 t1
    obtain ⟨z0, z1, z2⟩ := ht.2.1.1
    have qt := qT_d (s := t)
    refine ht.same (ag _ _ (by omega) (fun c q1 q2 => ?_)) (e19 t t0 t1) (eT t t0 t1)
    rcases (by omega : c = qT t ∨ c = qT t + 1 ∨ c = qT t + 2) with e | e | e <;> subst e
    · exact nN z0 (by decide)
    · exact nN z1 (by decide)
    · exact nN z2 (by decide)
  · have qs := qH_d (s := s)
    exact (h.sh s0 s1).same (ag _ _ (by omega) (fun c q1 q2 z => by have := (hN c z).2; omega)) ((h.ok.2.2.2.1 s s0 (by omega)).2).2 (eH s s0 s1)
  · exact eA 14 (by decide) (fun z => by have := (hN 14 z).2; omega)
  · exact h.st.same (fun c q1 q2 => eA c (by omega) (fun z => by have := (hN c z).2; omega))
  · intro c hc
    have q1 := eN (1000 + c) (fun z => by have := (hN _ z).2; omega)
    have q2 := eN 1000 (fun z => by have := (hN _ z).2; omega)
    rw [q1.1, q1.2.1, q1.2.2, q2.2.2]
    exact h.mod.1 c hc
  · rw [eP 1000 (by decide) (fun z => by have := (hN _ z).2; omega)]
    exact h.mod.2
theorem Rel.wbS (h : Rel W P A M) {N : Nat → Prop} (hN : ∀ c, N c → gK W c = 0 ∧ 100 ≤ c ∧ c < 500) (eN : ∀ c, ¬ N c → gK W' c = gK W c ∧ gL W' c = gL W c) (eP : ∀ c, 20 ≤ c → ¬ N c → P' c = P c) (eA : ∀ c, 8 ≤ c → ¬ N c → A' c = A c) (h0 : P' 0 15 = P 0 15) (e : M' 0 2 = M 0 2) : RWb W' P' A' M' := by
  refine ⟨fun z => by rw [h0]; exact h.wb.1 (by omega), fun z => ?_⟩
  obtain ⟨h1, h2, h3, h4, h5⟩ := h.wb.2 (by omega)
  have n0 : ¬ N 240 := fun q => by have := (hN _ q).1; rw [h2.1.1] at this; exact absurd this (by decide)
  have n1 : ¬ N (240 + 1) := fun q => by have := (hN _ q).1; rw [h2.1.2] at this; exact absurd this (by decide)
  refine ⟨by rw [h0]; exact h1, h2.same (fun c q1 q2 => ?_), by rw [eA 240 (by decide) n0]; exact h3, by rw [eA 240 (by decide) n0]; exact h4, by rw [eP 240 (by decide) n0]; exact h5⟩
  rcases (by omega : c = 240 ∨ c = 240 + 1) with q | q <;> subst q
  · exact ⟨(eN _ n0).1, (eN _ n0).2, eP _ (by decide) n0, eA _ (by decide) n0⟩
  · exact ⟨(eN _ n1).1, (eN _ n1).2, eP _ (by decide) n1, eA _ (by decide) n1⟩
end OLD
theorem V52_0 {d : Nat} (hd : 1 ≤ d) {Q : Option Value → xM → Prop} {W : gW} (hW : HW W) {A : Nat → Int → Int} {P : Nat → Int → Nat} (hR : RG A) (hT : Stat W P) (hG : GL W) {x1 x2 : Int} (rr : Rg x1 ∧ Rg x2) (h : (CtO P A) ∧ (((¬ (0 ≤ x1 ∧ x1 < A 0 10)) → Q (some (.int (iz (-2)))) (Wm W A P)) ∧ (¬ (¬ (0 ≤ x1 ∧ x1 < A 0 10)) → (((x2 < 100) → Q (some (.int (iz (-2)))) (Wm W A P)) ∧ (¬ (x2 < 100) → (((x2 ≤ 9999) → ((((A 0 11) < 4) → wpE (xT 52) (xev xT d) Q (45, [(3, .ref (lo W (qS x1))), (0, .ref (lo W 0)), (1, .int (iz x1)), (2, .int (iz x2))], [.int (iz (A 0 11)), .ref (lo W 17)], Wm W A P)) ∧ (¬ ((A 0 11) < 4) → Q (some (.int (iz (-4)))) (Wm W A P)))) ∧ (¬ (x2 ≤ 9999) → Q (some (.int (iz (-2)))) (Wm W A P)))))))) : wpE (xT 52) (xev xT d) Q (0, [(0, .ref (lo W 0)), (1, .int (iz x1)), (2, .int (iz x2))], [], Wm W A P) := by
  refine p_ald (cc3 c52_0) rfl ?_
  refine p_ild (cc3 c52_1) rfl ?_
  obtain ⟨g1, h⟩ := h
  have he := S46 (Nat.le_trans (by decide) hd) hW hR hT hG rr.1 g1
  refine nul_c (c := ¬ (0 ≤ x1 ∧ x1 < A 0 10)) he (fun c he => ?_) (fun c he => ?_) <;> refine p_callV (cc3 c52_2) (Nat.le_of_ble_eq_true rfl) rfl rfl (Nat.le_of_ble_eq_true rfl) (wk_kd hW (by decide) (st_k hT 0 12 (by decide))) he ?_
  · have h := h.1 c
    refine p_astN (ls' := [(3, .null), (0, .ref (lo W 0)), (1, .int (iz x1)), (2, .int (iz x2))]) (cc3 c52_5) (by decide) rfl ?_
    refine p_aldN (cc3 c52_6) rfl ?_
    refine p_ifnN (cc3 c52_7) ?_
    refine p_lc (ls' := []) c52_23 rfl rfl ?_
    refine i_push (n := (-2)) (cct c52_23 rfl) zl_m2 ?_
    exact p_ri (cc3 c52_25) trivial h
  · have h := h.2 c
    refine p_ast (ls' := [(3, .ref (lo W (qS x1))), (0, .ref (lo W 0)), (1, .int (iz x1)), (2, .int (iz x2))]) (cc3 c52_5) (by decide) rfl ?_
    refine p_ald (cc3 c52_6) rfl ?_
    refine p_ifnR (cc3 c52_7) ?_
    refine p_ild (cc3 c52_10) rfl ?_
    refine i_push (n := 100) (cc3 c52_11) zl_100 ?_
    refine i_icmp (c' := x2 < 100) (cc3 c52_13) (iz_lt rr.2 (by decide : Rg (100 : Int))) (fun c => ?_) (fun c => ?_)
    · have h := h.1 c
      refine p_lc (ls' := []) c52_23 rfl rfl ?_
      refine i_push (n := (-2)) (cct c52_23 rfl) zl_m2 ?_
      exact p_ri (cc3 c52_25) trivial h
    · have h := h.2 c
      refine p_ild (cc3 c52_16) rfl ?_
      refine i_push (n := 9999) (cc3 c52_17) zl_9999 ?_
      refine i_icmp (c' := x2 ≤ 9999) (cc3 c52_20) (iz_le rr.2 (by decide : Rg (9999 : Int))) (fun c => ?_) (fun c => ?_)
      · have h := h.1 c
        refine p_ald (cc3 c52_26) rfl ?_
        refine w_geti hW (v := A 0 11) (cc3 c52_27) (st_k hT 0 12 (by decide)) (ji := 11) rfl rfl ?_
        refine i_push (n := 4) (cc3 c52_30) zl_4 ?_
        refine i_icmp (c' := (A 0 11) < 4) (cc3 c52_31) (iz_lt (hR 0 11) (by decide : Rg (4 : Int))) (fun c => ?_) (fun c => ?_)
        · have h := h.1 c
          refine p_ald (cc3 c52_37) rfl ?_
          refine w_getp hW hT.1 (b := 17) (cc3 c52_38) (st_k hT 0 12 (by decide)) (ji := 6) rfl (st_p hT 0 6 17 (by decide)) ?_
          refine p_ald (cc3 c52_41) rfl ?_
          refine w_geti hW (v := A 0 11) (cc3 c52_42) (st_k hT 0 12 (by decide)) (ji := 11) rfl rfl ?_
          exact h
        · have h := h.2 c
          refine i_push (n := (-4)) (cc3 c52_34) zl_m4 ?_
          exact p_ri (cc3 c52_36) trivial h
      · have h := h.2 c
        refine p_lc (ls' := []) c52_23 rfl rfl ?_
        refine i_push (n := (-2)) (cct c52_23 rfl) zl_m2 ?_
        exact p_ri (cc3 c52_25) trivial h
theorem V52_48 {d : Nat} (hd : 1 ≤ d) {Q : Option Value → xM → Prop} {W : gW} (hW : HW W) {A : Nat → Int → Int} {P : Nat → Int → Nat} (hR : RG A) (hT : Stat W P) (hG : GL W) {x1 x2 s1 : Int} {a3 b0 : Nat} (rr : Rg x1 ∧ Rg x2 ∧ Rg s1) (h : wpE (xT 52) (xev xT d) Q (52, [(3, .ref (lo W a3)), (0, .ref (lo W 0)), (1, .int (iz x1)), (2, .int (iz x2))], [.int (iz x2), .int (iz x1), .ref (lo W a3), .ref (lo W b0), .ref (lo W b0), .int (iz s1), .ref (lo W 17)], Wm W A P)) : wpE (xT 52) (xev xT d) Q (48, [(3, .ref (lo W a3)), (0, .ref (lo W 0)), (1, .int (iz x1)), (2, .int (iz x2))], [.ref (lo W b0), .int (iz s1), .ref (lo W 17)], Wm W A P) := by
  refine p_dup (cc3 c52_48) rfl ?_
  refine p_ald (cc3 c52_49) rfl ?_
  refine p_ild (cc3 c52_50) rfl ?_
  refine p_ild (cc3 c52_51) rfl ?_
  exact h
theorem V52_55 {d : Nat} (hd : 1 ≤ d) {Q : Option Value → xM → Prop} {W : gW} (hW : HW W) {A : Nat → Int → Int} {P : Nat → Int → Nat} (hR : RG A) (hT : Stat W P) (hG : GL W) {x1 x2 s1 : Int} {a3 b0 : Nat} (rr : Rg x1 ∧ Rg x2 ∧ Rg s1) (h : (0 ≤ s1 ∧ s1 < 4) ∧ (gK W b0 = 1) ∧ (Rg ((A 0 11) + 1)) ∧ (Rg (((A 0 11) + 1) - 1)) ∧ Q (some (.int (iz (((A 0 11) + 1) - 1)))) (Wm W (UA A 0 11 ((A 0 11) + 1)) (UP P 17 s1 (b0 + 1)))) : wpE (xT 52) (xev xT d) Q (55, [(3, .ref (lo W a3)), (0, .ref (lo W 0)), (1, .int (iz x1)), (2, .int (iz x2))], [.ref (lo W b0), .int (iz s1), .ref (lo W 17)], Wm W A P) := by
  obtain ⟨g1, h⟩ := h
  obtain ⟨g2, h⟩ := h
  refine w_astp hW (cc3 c52_55) (st_k hT 17 24 (by decide)) (st_i hT 17 4 (by decide) g1) g2 ?_
  refine p_ald (cc3 c52_56) rfl ?_
  refine p_dup (cc3 c52_57) rfl ?_
  refine w_geti hW (v := A 0 11) (cc3 c52_58) (st_k (Stat.up (v := b0 + 1) hT (po_r (c := 17) (j := s1) (by decide)) (Or.inr (kn g2))) 0 12 (by decide)) (ji := 11) rfl rfl ?_
  refine i_push (n := 1) (cc3 c52_61) zl_1 ?_
  obtain ⟨g3, h⟩ := h
  refine (fun _ : Rg ((A 0 11) + 1) => i_add (cc3 c52_62) ?_) g3
  refine id (α := Rg ((A 0 11) + 1) → _) (fun _ => ?_) g3; refine w_puti hW (cc3 c52_63) (st_k (Stat.up (v := b0 + 1) hT (po_r (c := 17) (j := s1) (by decide)) (Or.inr (kn g2))) 0 12 (by decide)) (ji := 11) rfl ?_
  refine p_ald (cc3 c52_66) rfl ?_
  refine w_geti hW (v := (A 0 11) + 1) (cc3 c52_67) (st_k (Stat.up (v := b0 + 1) hT (po_r (c := 17) (j := s1) (by decide)) (Or.inr (kn g2))) 0 12 (by decide)) (ji := 11) rfl (by first | rfl | exact UA_eq | exact UA_j (by decide) | exact UA_c (by decide) | simp [UA]) ?_
  refine i_push (n := 1) (cc3 c52_70) zl_1 ?_
  obtain ⟨g4, h⟩ := h
  refine (fun _ : Rg (((A 0 11) + 1) - 1) => i_sub (cc3 c52_71) ?_) g4
  exact p_ri (cc3 c52_72) trivial h
theorem cl_6 {W : gW} {P : Nat → Int → Nat} {A : Nat → Int → Int} (h : Sta W P A) {x1 x2 : Int} (rr : Rg x1 ∧ Rg x2) : Cll 52 141 [.int (iz x1), .int (iz x2)] W P A := by
  obtain ⟨hW, hR, hT, hG, hr⟩ := h
  obtain ⟨hn1, hn2, hn3, hn4, hn5, hn6⟩ := hr.cn
  obtain ⟨oS0, oB0, oK0, oH0, oT0, oR0⟩ := hr.ok
  have hcs := hr.cto.1
  have hm := fun (W' : gW) (hW' : HW W') (P' : Nat → Int → Nat) (hT' : HR W' P') (h3 : RMo W' P') (B : Nat → Int → Int) => S141 (d := 190) (by decide) (ml_W (A := B) hW' hT' h3) (rg_mo hR) rr ⟨oS0.1.1, oB0.1⟩
  by_cases q : (0 ≤ x1 ∧ x1 ≤ mo A 0 2 - 1) ∧ (100 ≤ x2 ∧ x2 ≤ 9999)
  · by_cases f : mo A 0 8 = 4
    · have hx : xev xT 190 52 [.ref (lo W 0), .int (iz x1), .int (iz x2)] (Wm W A P) (some (.int (iz (-4)))) (Wm W A P) := by
        refine xev_i (D := 1) (by decide) (Nat.le_of_ble_eq_true rfl) (fun d hd => V52_0 hd hW hR hT hG rr ⟨hr.cto, fun z => absurd ⟨q.1.1, by omega⟩ z, fun _ => ⟨fun z => absurd z (by omega), fun _ => ⟨fun _ => ⟨fun z => absurd z (by omega), fun _ => ⟨rfl, rfl⟩⟩, fun z => absurd q.2.2 z⟩⟩⟩)
      have hm := hm W hW P hT.1 hr.mod A
      have e1 : m_bolt_r (mo A) x1 x2 = -4 := by unfold m_bolt_r; rw [if_pos q, if_pos f]
      have e2 : m_bolt_n (mo A) x1 x2 = mo A := by unfold m_bolt_n; rw [if_neg (fun z => z.2 f)]
      rw [e1, e2] at hm
      exact stp_ro ⟨hW, hR, hT, hG, hr⟩ hx hm
    · obtain ⟨a, ha⟩ : ∃ a, a = qB (A 0 11) := ⟨_, rfl⟩
      have qa := qB_d (s := A 0 11)
      rw [← ha] at qa
      have hse := hr.se q.1.1 (by omega)
      have qs := qS_d (s := x1)
      have f0 : gK W a = 0 := hr.fr.2.1 a (by omega) (by omega)
      have f1 : gK W (a + 1) = 0 := hr.fr.2.1 (a + 1) (by omega) (by omega)
      have ks : NZ W (qS x1) := kn hse.1.1.1
      have na : ¬ qS x1 = a := by omega
      have W1 : HW (gN W a 1 5) := gN_ok hW f0 (by decide)
      have T1 : Stat (gN W a 1 5) (ZP P a) := hT.gN hG f0 (by omega) (by decide)
      have G1 : GL (gN W a 1 5) := hG.gN f0
      have R1 : RG (ZA A a) := rg_ZA hR
      have key := fun (d : Nat) (hd : 1 ≤ d) => S44 (d := d) hd W1 R1 T1 G1 (x := x1) (y := x2) (a := a) (w := qS x1) rr ⟨by omega, gN_K_e, by rw [gN_K_n (by omega)]; exact f1, by rw [NZ, gN_K_n na]; exact ks⟩
      obtain ⟨-, W2, R2, T2, G2⟩ := key 1 (Nat.le_refl 1)
      have kW : ∀ c, ¬ c = a → ¬ c = a + 1 → gK (BtW (gN W a 1 5) a) c = gK W c ∧ gL (BtW (gN W a 1 5) a) c = gL W c ∧ lo (BtW (gN W a 1 5) a) c = lo W c := fun c z1 z2 => ⟨by rw [gN_K_n z2, gN_K_n z1], by rw [gN_L_n z2, gN_L_n z1], by rw [gN_lo_n z2, gN_lo_n z1]⟩
      have ka : gK (BtW (gN W a 1 5) a) a = 1 := by rw [gN_K_n (by omega)]; exact gN_K_e
      have ka1 : gK (BtW (gN W a 1 5) a) (a + 1) = 20 := gN_K_e
      have la1 : gL (BtW (gN W a 1 5) a) (a + 1) = 10 := gN_L_e
      have T3 : Stat (BtW (gN W a 1 5) a) (UP (BtP (ZP P a) a (qS x1)) 17 (A 0 11) (a + 1)) := Stat.up (v := a + 1) T2 (po_r (by decide)) (Or.inr (by rw [NZ, Nat.add_sub_cancel, ka]; decide))
      have A20 : BtA (ZA A a) a x1 x2 0 = A 0 := by show UA (UA (ZA (ZA A a) (a + 1)) a 1 x1) a 2 x2 0 = _; rw [UA_n (by omega), UA_n (by omega), ZA_n (by omega), ZA_n (by omega)]
      have A2n : ∀ c, ¬ c = a → ¬ c = a + 1 → BtA (ZA A a) a x1 x2 c = A c := fun c z1 z2 => by show UA (UA (ZA (ZA A a) (a + 1)) a 1 x1) a 2 x2 c = _; rw [UA_n z1, UA_n z1, ZA_n z2, ZA_n z1]
      have A2a : ∀ j : Int, BtA (ZA A a) a x1 x2 a j = if j = 2 then x2 else if j = 1 then x1 else 0 := fun j => by
        show UA (UA (ZA (ZA A a) (a + 1)) a 1 x1) a 2 x2 a j = _
        by_cases j2 : j = 2
        · rw [if_pos j2, j2, UA_eq]
        · rw [if_neg j2, UA_j j2]
          by_cases j1 : j = 1
          · rw [if_pos j1, j1, UA_eq]
          · rw [if_neg j1, UA_j j1, ZA_n (by omega), ZA_e]
      have P2n : ∀ c, ¬ c = a → ¬ c = a + 1 → BtP (ZP P a) a (qS x1) c = P c := fun c z1 z2 => by show UP (UP (ZP (ZP P a) (a + 1)) a 3 ((a + 1) + 1)) a 0 (qS x1 + 1) c = _; rw [UP_n z1, UP_n z1, ZP_n z2, ZP_n z1]
      have P2a3 : BtP (ZP P a) a (qS x1) a 3 = (a + 1) + 1 := by show UP (UP (ZP (ZP P a) (a + 1)) a 3 ((a + 1) + 1)) a 0 (qS x1 + 1) a 3 = _; rw [UP_j (by decide), UP_e]
      have P2a0 : BtP (ZP P a) a (qS x1) a 0 = qS x1 + 1 := UP_e
      generalize hA2 : BtA (ZA A a) a x1 x2 = A2 at *
      generalize hP2 : BtP (ZP P a) a (qS x1) = P2 at *
      generalize hW2 : BtW (gN W a 1 5) a = W2' at *
      have hx : xev xT 190 52 [.ref (lo W 0), .int (iz x1), .int (iz x2)] (Wm W A P) (some (.int (iz (A 0 11)))) (Wm W2' (UA A2 0 11 (A 0 11 + 1)) (UP P2 17 (A 0 11) (a + 1))) := by
        refine xev_i (D := 1) (by decide) (Nat.le_of_ble_eq_true rfl) (fun d hd => V52_0 hd hW hR hT hG rr ⟨hr.cto, fun z => absurd ⟨q.1.1, by omega⟩ z, fun _ => ⟨fun z => absurd z (by omega), fun _ => ⟨fun _ => ⟨fun _ => ?_, fun z => absurd (by omega) z⟩, fun z => absurd q.2.2 z⟩⟩⟩)
        refine w_new hW hT.1 (cc3 c52_45) a f0 (fun V1 e1 _ => ?_)
        have e1' : V1 = gN W a 1 5 := e1
        subst e1'
        rw [show lo W 17 = lo (gN W a 1 5) 17 from (gN_lo_n (by omega)).symm, show lo W (qS x1) = lo (gN W a 1 5) (qS x1) from (gN_lo_n na).symm, show lo W 0 = lo (gN W a 1 5) 0 from (gN_lo_n (by omega)).symm]
        refine V52_48 hd W1 R1 T1 G1 ⟨rr.1, rr.2, ⟨by omega, by omega⟩⟩ ?_
        refine p_callI (cc3 c52_52) (Nat.le_of_ble_eq_true rfl) rfl rfl (Nat.le_of_ble_eq_true rfl) (key d (by omega)).1 ?_
        have l2 : ∀ c, ¬ c = a + 1 → lo (gN W a 1 5) c = lo W2' c := fun c z => by rw [← hW2]; exact (gN_lo_n z).symm
        show wpE _ _ _ (55, [(3, .ref (lo (gN W a 1 5) (qS x1))), (0, .ref (lo (gN W a 1 5) 0)), (1, .int (iz x1)), (2, .int (iz x2))], [.ref (lo (gN W a 1 5) a), .int (iz (A 0 11)), .ref (lo (gN W a 1 5) 17)], _)
        rw [l2 17 (by omega), l2 (qS x1) (by omega), l2 0 (by omega), l2 a (by omega)]
        refine V52_55 hd W2 R2 T2 G2 ⟨rr.1, rr.2, ⟨by omega, by omega⟩⟩ ⟨by omega, ka, by rw [A20]; exact ⟨by omega, by omega⟩, by rw [A20]; exact ⟨by omega, by omega⟩, ?_⟩
        rw [A20, show A 0 11 + 1 - 1 = A 0 11 by omega]
        exact ⟨rfl, rfl⟩
      have e1 : m_bolt_r (mo A) x1 x2 = A 0 11 := by unfold m_bolt_r; rw [if_pos q, if_neg f, hn2]
      have e2 : m_bolt_n (mo A) x1 x2 = UA (UA (UA (UA (mo A) 7 (mo A 0 8) x1) 8 (mo A 0 8) x2) 9 (mo A 0 8) 0) 0 8 (mo A 0 8 + 1) := by unfold m_bolt_n; rw [if_pos ⟨q, f⟩]
      have m : ∀ c, ¬ c = 0 → ¬ c = 7 → ¬ c = 8 → ¬ c = 9 → UA (UA (UA (UA (mo A) 7 (mo A 0 8) x1) 8 (mo A 0 8) x2) 9 (mo A 0 8) 0) 0 8 (mo A 0 8 + 1) c = mo A c := fun c z0 z1 z2 z3 => (UA_n z0).trans ((UA_n z3).trans ((UA_n z2).trans (UA_n z1)))
      have m0 : ∀ j : Int, ¬ j = 8 → UA (UA (UA (UA (mo A) 7 (mo A 0 8) x1) 8 (mo A 0 8) x2) 9 (mo A 0 8) 0) 0 8 (mo A 0 8 + 1) 0 j = mo A 0 j := fun j z => by rw [UA_j z, UA_c (by decide), UA_c (by decide), UA_c (by decide)]
      have m08 : UA (UA (UA (UA (mo A) 7 (mo A 0 8) x1) 8 (mo A 0 8) x2) 9 (mo A 0 8) 0) 0 8 (mo A 0 8 + 1) 0 8 = mo A 0 8 + 1 := UA_eq
      have m7 : ∀ j : Int, UA (UA (UA (UA (mo A) 7 (mo A 0 8) x1) 8 (mo A 0 8) x2) 9 (mo A 0 8) 0) 0 8 (mo A 0 8 + 1) 7 j = if j = mo A 0 8 then x1 else mo A 7 j := fun j => by
        rw [UA_c (by decide), UA_c (by decide), UA_c (by decide)]
        by_cases z : j = mo A 0 8
        · rw [if_pos z, z, UA_eq]
        · rw [if_neg z, UA_j z]
      have m8 : ∀ j : Int, UA (UA (UA (UA (mo A) 7 (mo A 0 8) x1) 8 (mo A 0 8) x2) 9 (mo A 0 8) 0) 0 8 (mo A 0 8 + 1) 8 j = if j = mo A 0 8 then x2 else mo A 8 j := fun j => by
        rw [UA_c (by decide), UA_c (by decide)]
        by_cases z : j = mo A 0 8
        · rw [if_pos z, z, UA_eq]
        · rw [if_neg z, UA_j z, UA_c (by decide)]
      have m9 : ∀ j : Int, UA (UA (UA (UA (mo A) 7 (mo A 0 8) x1) 8 (mo A 0 8) x2) 9 (mo A 0 8) 0) 0 8 (mo A 0 8 + 1) 9 j = if j = mo A 0 8 then 0 else mo A 9 j := fun j => by
        rw [UA_c (by decide)]
        by_cases z : j = mo A 0 8
        · rw [if_pos z, z, UA_eq]
        · rw [if_neg z, UA_j z, UA_c (by decide), UA_c (by decide)]
      have rM : RG (UA (UA (UA (UA (mo A) 7 (mo A 0 8) x1) 8 (mo A 0 8) x2) 9 (mo A 0 8) 0) 0 8 (mo A 0 8 + 1)) := rg_UA (rg_UA (rg_UA (rg_UA (rg_mo hR) rr.1) rr.2) (by decide)) ⟨by omega, by omega⟩
      have hm := fun h3 => hm W2' W2 (UP P2 17 (A 0 11) (a + 1)) T3.1 h3 (UA A2 0 11 (A 0 11 + 1))
      rw [e1, e2] at hm
      generalize hM : UA (UA (UA (UA (mo A) 7 (mo A 0 8) x1) 8 (mo A 0 8) x2) 9 (mo A 0 8) 0) 0 8 (mo A 0 8 + 1) = M' at *
      have eB : ∀ b : Int, 0 ≤ b → b < mo A 0 8 → eqB (mo A) M' b := fun b b0 b1 => ⟨by rw [m7, if_neg (by omega)], by rw [m8, if_neg (by omega)], by rw [m9, if_neg (by omega)], fun k _ _ => by rw [m 10 (by decide) (by decide) (by decide) (by decide)]⟩
      have eS : ∀ s : Int, eqS (mo A) M' s := fun s => eqS_r (fun c hc => by simp at hc; exact m c (by omega) (by omega) (by omega) (by omega)) s
      have eK : ∀ s : Int, eqK (mo A) M' s := fun s => eqK_r (fun c hc => by simp at hc; exact m c (by omega) (by omega) (by omega) (by omega)) s
      have eL : ∀ s : Int, eqL (mo A) M' s := fun s => eqL_r (fun c hc => by simp at hc; exact m c (by omega) (by omega) (by omega) (by omega)) s
      have eT : ∀ s : Int, eqT (mo A) M' s := fun s => eqT_r (fun c hc => by simp at hc; exact m c (by omega) (by omega) (by omega) (by omega)) s
      have eH : ∀ s : Int, eqH (mo A) M' s := fun s => eqH_r (fun c hc => by simp at hc; exact m c (by omega) (by omega) (by omega) (by omega)) s
      have hN : ∀ c, (c = a ∨ c = a + 1) → gK W c = 0 ∧ 100 ≤ c ∧ c < 500 := fun c z => by
        rcases z with e | e <;> subst e
        · exact ⟨f0, by omega, by omega⟩
        · exact ⟨f1, by omega, by omega⟩
      have eP' : ∀ c, ¬ c = 17 → ¬ (c = a ∨ c = a + 1) → UP P2 17 (A 0 11) (a + 1) c = P c := fun c z1 z2 => by rw [UP_n z1]; exact P2n c (fun w => z2 (Or.inl w)) (fun w => z2 (Or.inr w))
      have eA' : ∀ c, ¬ c = 0 → ¬ (c = a ∨ c = a + 1) → UA A2 0 11 (A 0 11 + 1) c = A c := fun c z1 z2 => by rw [UA_n z1]; exact A2n c (fun w => z2 (Or.inl w)) (fun w => z2 (Or.inr w))
      have a0 : ∀ j : Int, ¬ j = 11 → UA A2 0 11 (A 0 11 + 1) 0 j = A 0 j := fun j z => by rw [UA_j z, A20]
      obtain ⟨c1, c2, c3, c4, c5, c6, c7, c8⟩ := hr.old (W' := W2') (P' := UP P2 17 (A 0 11) (a + 1)) (A' := UA A2 0 11 (A 0 11 + 1)) (M' := M') (N := fun c => c = a ∨ c = a + 1) hN (fun c z => kW c (fun w => z (Or.inl w)) (fun w => z (Or.inr w))) (fun c z1 z2 => eP' c (by omega) z2) (fun c z1 z2 => eA' c (by omega) z2) (fun s _ _ => eS s) eB (fun k _ _ => ⟨eK k, eL k⟩) (fun t _ _ => eT t) (fun s _ _ => eH s) (by rw [m0 2 (by decide)]; exact Int.le_refl _) (fun t _ _ => by rw [eP' 19 (by decide) (by omega)])
      have e17 : mo A 0 8 = A 0 11 := hn2.symm
      refine stp_m2 hx (mo_n fun c hc => eA' c (by omega) (by omega)) (by rw [(kW 1000 (by omega) (by omega)).2.2]; have := hm c8; rw [(kW 1000 (by omega) (by omega)).2.2] at this; exact this) W2 (rg_UA R2 ⟨by omega, by omega⟩) rM T3 G2 ?_ ⟨⟨(kW 0 (by omega) (by omega)).2.2, (kW 1000 (by omega) (by omega)).2.2, (kW 540 (by omega) (by omega)).2.2⟩, ⟨(kW 540 (by omega) (by omega)).1, (kW 540 (by omega) (by omega)).2.1⟩, eA' 540 (by decide) (by omega)⟩ ?_
      · refine ⟨⟨⟨by rw [a0 10 (by decide)]; exact hcs.1, by rw [UA_eq]; omega, by rw [a0 12 (by decide)]; exact hcs.2.2⟩, ?_, fun b b0 b1 => ?_, ?_, ?_⟩, ?_, ?_, fun s s0 s1 => c1 s s0 (by rw [m0 2 (by decide)] at s1; exact s1), fun b b0 b1 => ?_, ?_, fun k k0 k1 => c3 k k0 (by rw [m0 13 (by decide)] at k1; exact k1), fun t t0 t1 => c4 t t0 (by rw [m0 42 (by decide)] at t1; exact t1), c5, ?_, ?_, c7, c8, ⟨?_, ⟨?_, fun b b0 b1 => ?_⟩, ?_, ?_, ?_, ?_⟩⟩
        · rw [a0 10 (by decide), eP' 16 (by decide) (by omega)]; exact hr.cto.2.1
        · rw [UA_eq] at b1
          by_cases z : b = A 0 11
          · rw [z, UP_e, ha]
          · rw [UP_j z, P2n 17 (by omega) (by omega)]; exact hr.cto.2.2.1 b b0 (by omega)
        · rw [a0 12 (by decide), eP' 18 (by decide) (by omega)]; exact hr.cto.2.2.2.1
        · rw [eP' 20 (by decide) (by omega)]; exact hr.cto.2.2.2.2
        · unfold RCn
          rw [a0 10 (by decide), UA_eq, a0 12 (by decide), a0 13 (by decide), a0 14 (by decide), eA' 1 (by decide) (by omega), m0 2 (by decide), m08, m0 13 (by decide), m0 42 (by decide), m0 43 (by decide), m0 1 (by decide)]
          exact ⟨hn1, by omega, hn3, hn4, hn5, hn6⟩
        · rw [m 1 (by decide) (by decide) (by decide) (by decide)]
          exact hr.tp.same (eA' 1 (by decide) (by omega)) (eA' 2 (by decide) (by omega))
        · rw [m08] at b1
          by_cases z : b = mo A 0 8
          · have zb : b = A 0 11 := by omega
            subst zb
            have u2 : ∀ j : Int, UA A2 0 11 (A 0 11 + 1) a j = if j = 2 then x2 else if j = 1 then x1 else 0 := fun j => by rw [UA_c (by omega)]; exact A2a j
            have up : UP P2 17 (A 0 11) (a + 1) a = P2 a := UP_n (by omega)
            unfold RBo
            rw [← ha]
            refine ⟨⟨⟨ka, ka1⟩, by rw [up]; exact P2a3, la1, by rw [u2, if_neg (by decide), if_neg (by decide)]; exact ⟨by decide, by decide⟩, by rw [u2, if_pos rfl]; exact q.2, by rw [up, P2a0]; omega⟩, ⟨by rw [u2, if_neg (by decide), if_pos rfl, m7, if_pos hn2], by rw [u2, if_pos rfl, m8, if_pos hn2], by rw [u2, if_neg (by decide), if_neg (by decide), m9, if_pos hn2]⟩, fun g g0 g1 => ?_, by rw [up, P2a0, m7, if_pos hn2]⟩
            rw [m9, if_pos hn2] at g1
            omega
          · exact c2 b b0 (by omega)
        · exact hr.wbS (N := fun c => c = a ∨ c = a + 1) hN (fun c z => ⟨(kW c (fun w => z (Or.inl w)) (fun w => z (Or.inr w))).1, (kW c (fun w => z (Or.inl w)) (fun w => z (Or.inr w))).2.1⟩) (fun c z1 z2 => eP' c (by omega) z2) (fun c z1 z2 => eA' c (by omega) z2) (by rw [eP' 0 (by decide) (by omega)]) (m0 2 (by decide))
        · rw [c6, m 41 (by decide) (by decide) (by decide) (by decide)]; exact hr.cu
        · obtain ⟨w1, w2, w3, w4, w5⟩ := hr.fr
          unfold RFr
          rw [m0 2 (by decide), m08, m0 13 (by decide), m0 42 (by decide)]
          refine ⟨fun c z1 z2 => ?_, fun c z1 z2 => ?_, fun z0 c z1 z2 => ?_, fun c z1 z2 => ?_, fun c z1 z2 => ?_⟩
          · rw [(kW c (by omega) (by omega)).1]; exact w1 c z1 z2
          · rw [(kW c (by omega) (by omega)).1]; exact w2 c (by omega) z2
          · rw [(kW c (by omega) (by omega)).1]; exact w3 z0 c z1 z2
          · rw [(kW c (by omega) (by omega)).1]; exact w4 c z1 z2
          · rw [(kW c (by omega) (by omega)).1]; exact w5 c z1 z2
        · exact oS0.sm (fun s _ _ => eS s) (m0 2 (by decide))
        · rw [m08]; omega
        · rw [m08] at b1
          by_cases z : b = mo A 0 8
          · subst z
            exact ⟨by rw [m7, if_pos rfl, m0 2 (by decide)]; omega, by rw [m8, if_pos rfl]; exact q.2, by rw [m9, if_pos rfl]; decide⟩
          · exact (oB0.2 b b0 (by omega)).same (eB b b0 (by omega)) (by rw [m0 2 (by decide)]; exact Int.le_refl _)
        · refine ⟨by rw [m0 13 (by decide)]; exact oK0.1, fun k k0 k1 => ?_⟩
          rw [m0 13 (by decide)] at k1
          obtain ⟨w1, w2⟩ := oK0.2 k k0 k1
          exact ⟨w1.same (eK k) (eL k).1, w2.same w1 (eK k) (eL k) (by rw [m08]; omega)⟩
        · exact oH0.same (m 43 (by decide) (by decide) (by decide) (by decide)) (m 44 (by decide) (by decide) (by decide) (by decide))
        · rw [m0 42 (by decide)]; exact oT0
        · rw [m0 42 (by decide), m0 43 (by decide)]; exact oR0
      · rw [← hW2]
        show gsz W + 1 + 1 ≤ _ ∧ gsl W + 5 + 10 ≤ _
        omega
  · have hx : xev xT 190 52 [.ref (lo W 0), .int (iz x1), .int (iz x2)] (Wm W A P) (some (.int (iz (-2)))) (Wm W A P) := by
      refine xev_i (D := 1) (by decide) (Nat.le_of_ble_eq_true rfl) (fun d hd => V52_0 hd hW hR hT hG rr ⟨hr.cto, fun _ => ⟨rfl, rfl⟩, fun z => ⟨fun _ => ⟨rfl, rfl⟩, fun z2 => ⟨fun z3 => absurd (by omega) q, fun _ => ⟨rfl, rfl⟩⟩⟩⟩)
    have hm := hm W hW P hT.1 hr.mod A
    have e1 : m_bolt_r (mo A) x1 x2 = -2 := by unfold m_bolt_r; rw [if_neg q]
    have e2 : m_bolt_n (mo A) x1 x2 = mo A := by unfold m_bolt_n; rw [if_neg (fun z => q z.1)]
    rw [e1, e2] at hm
    exact stp_ro ⟨hW, hR, hT, hG, hr⟩ hx hm
