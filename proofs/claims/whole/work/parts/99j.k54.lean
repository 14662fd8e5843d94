section BAND0
variable {W : gW} {P P' : Nat → Int → Nat} {A A' M M' : Nat → Int → Int}
/-- rows of the search and of the cutting may change, on both sides -/
theorem Rel.mnf2 (h : Rel W P A M) (eA : ∀ c, c < 1000 → ¬ (3 ≤ c ∧ c ≤ 15) → A' c = A c) (e : ∀ c j, ¬ bfRows c j → M' c j = M c j) (cC : ∀ j : Nat, j < 8 → A' 14 j = M' 41 j) : Rel W P A' M' := by
  obtain ⟨oS0, oB0, oK0, oH0, oT0, oR0⟩ := h.ok
  have m : ∀ c, ¬ c = 0 → ¬ c = 8 → ¬ c = 9 → ¬ (29 ≤ c ∧ c ≤ 32) → ¬ (39 ≤ c ∧ c ≤ 42) → M' c = M c := fun c z1 z2 z3 z4 z5 => funext fun j => e c j (fun z => by unfold bfRows ndRows at z; omega)
  have m0 : ∀ j : Int, ¬ (j = 32 ∨ j = 36 ∨ j = 39 ∨ j = 40 ∨ j = 41 ∨ j = 62 ∨ j = 63) → M' 0 j = M 0 j := fun j z1 => e 0 j (fun z => by unfold bfRows ndRows at z; omega)
  have m8 : ∀ c j, (c = 8 ∨ c = 9) → ¬ j = 4 → M' c j = M c j := fun c j z1 z2 => e c j (fun z => by unfold bfRows ndRows at z; omega)
  have eS : ∀ s : Int, eqS M M' s := fun s => eqS_r (fun c hc => by simp at hc; exact m c (by omega) (by omega) (by omega) (by omega) (by omega)) s
  have eB : ∀ s : Int, 0 ≤ s → s < 4 → eqB M M' s := fun s s0 s1 => ⟨by rw [m 7 (by decide) (by decide) (by decide) (by decide) (by decide)], m8 8 s (Or.inl rfl) (by omega), m8 9 s (Or.inr rfl) (by omega), fun k _ _ => by rw [m 10 (by decide) (by decide) (by decide) (by decide) (by decide)]⟩
  have eK : ∀ s : Int, eqK M M' s := fun s => eqK_r (fun c hc => by simp at hc; exact m c (by omega) (by omega) (by omega) (by omega) (by omega)) s
  have eL : ∀ s : Int, eqL M M' s := fun s => eqL_r (fun c hc => by simp at hc; exact m c (by omega) (by omega) (by omega) (by omega) (by omega)) s
  have eT : ∀ s : Int, eqT M M' s := fun s => eqT_r (fun c hc => by simp at hc; exact m c (by omega) (by omega) (by omega) (by omega) (by omega)) s
  have eH : ∀ s : Int, eqH M M' s := fun s => eqH_r (fun c hc => by simp at hc; exact m c (by omega) (by omega) (by omega) (by omega) (by omega)) s
  have z1 := m0 1 (by omega)
  have z2 := m0 2 (by omega)
  have z8 := m0 8 (by omega)
  have z13 := m0 13 (by omega)
  have z42 := m0 42 (by omega)
  have z43 := m0 43 (by omega)
  have A0 := eA 0 (by decide) (by decide)
  have A1 := eA 1 (by decide) (by decide)
  refine h.gen (fun _ _ _ _ => rfl) (fun c _ _ _ _ => eA c (by omega) (by omega)) (fun s _ _ => eS s) (fun t _ _ => eT t) ⟨z2, z42, z8, z13⟩ (by rw [A0]; exact ⟨rfl, rfl, rfl⟩) ?_ ?_ (h.boS (fun _ _ _ => rfl) (fun c _ _ => eA c (by omega) (by omega)) eB) (h.kiS (fun _ _ _ => rfl) (fun c _ _ => eA c (by omega) (by omega)) (fun k _ _ => ⟨eK k, eL k⟩) z2 (eS 0)) (h.shS (fun _ _ _ => rfl) (fun c _ _ => eA c (by omega) (by omega)) (fun s _ _ => eH s)) cC (oB0.sm eB z8 z2) (oK0.sm (fun k _ _ => ⟨eK k, eL k⟩) z13 z8) (oH0.same (m 43 (by decide) (by decide) (by decide) (by decide) (by decide)) (m 44 (by decide) (by decide) (by decide) (by decide) (by decide))) (by rw [z43, z42]; exact oR0)
  · unfold RCn; rw [A0, A1, z1, z2, z8, z13, z42, z43]; exact h.cn
  · rw [m 1 (by decide) (by decide) (by decide) (by decide) (by decide)]; exact h.tp.same A1 (eA 2 (by decide) (by decide))
theorem Rel.rows (h : Rel W P A M) (eA : ∀ c, c < 1000 → ¬ (3 ≤ c ∧ c ≤ 13) → A' c = A c) : Rel W P A' M := h.mnf2 (fun c q1 q2 => eA c q1 (by omega)) (fun _ _ _ => rfl) (by rw [eA 14 (by decide) (by decide)]; exact h.cu)
/-- what a kilt needs, as the cutting takes it -/
def NdK (M : Nat → Int → Int) (set : Int) (q : Nat) (v : Int) : Prop := ((q : Int) < M 0 13 → (v = -1 → ¬ (bdT set q = true ∧ bdNd M set q ≤ 9999)) ∧ (¬ v = -1 → bdT set q = true ∧ bdNd M set q = v ∧ 0 ≤ v)) ∧ (M 0 13 ≤ q → v = -1) ∧ v ≤ 1000000
def BdI (W : gW) (P : Nat → Int → Nat) (A A0 : Nat → Int → Int) (set : Int) (x : Nat) : Prop := Rel W P A (mo A0) ∧ (∀ c, 500 ≤ c → A c = A0 c) ∧ (∀ b : Nat, b < 4 → A 13 b = bdL (mo A0) b) ∧ ∀ q : Nat, q < x → NdK (mo A0) set q (A 12 q)
theorem bdL_4 (h : BoltsOK M) {b : Nat} (hb : b < 4) : 0 ≤ bdL M b ∧ bdL M b ≤ 9999 := by
  unfold bdL
  split
  · rename_i c
    obtain ⟨v1, v2, v3⟩ := h.2 b (by omega) c.1
    omega
  · decide
theorem BdI.kcp {A0 : Nat → Int → Int} {set : Int} (h : BdI W P A A0 set 8) : KCp A := by
  obtain ⟨h1, h2, h3, h4⟩ := h
  refine ⟨fun b b0 b1 => ?_, fun n n0 n1 => ?_⟩
  · obtain ⟨m, rfl⟩ := Int.eq_ofNat_of_zero_le b0
    rw [h3 m (by omega)]
    exact bdL_4 h1.ok.2.1 (by omega)
  · obtain ⟨m, rfl⟩ := Int.eq_ofNat_of_zero_le n0
    obtain ⟨q1, q2, q3⟩ := h4 m (by omega)
    by_cases c : A 12 (m : Int) = -1
    · exact Or.inl c
    · by_cases e : (m : Int) < mo A0 0 13
      · exact Or.inr ⟨((q1 e).2 c).2.2, q3⟩
      · exact absurd (q2 (by omega)) c
theorem BdI.step {A0 B : Nat → Int → Int} {set v : Int} {x : Nat} (h : BdI W P B A0 set x) (hv : NdK (mo A0) set x v) : BdI W P (UA B 12 x v) A0 set (x + 1) := by
  obtain ⟨h1, h2, h3, h4⟩ := h
  refine ⟨h1.rows (fun c _ q => UA_n (by omega)), fun c hc => by rw [UA_n (by omega)]; exact h2 c hc, fun b hb => by rw [UA_n (by decide)]; exact h3 b hb, fun q hq => ?_⟩
  by_cases e : q = x
  · subst e; rw [UA_eq]; exact hv
  · rw [UA_j (by omega)]; exact h4 q (by omega)
end BAND0
def BandP (M A : Nat → Int → Int) (W : gW) (P : Nat → Int → Nat) (x r : Int) (A' : Nat → Int → Int) (P' : Nat → Int → Nat) : Prop := (¬ (0 ≤ x ∧ x ≤ ishl 1 (M 0 13) - 1) → r = -2 ∧ A' = A ∧ P' = P) ∧ ((0 ≤ x ∧ x ≤ ishl 1 (M 0 13) - 1) → (M 0 2 = 0 → r = -3 ∧ A' = A ∧ P' = P) ∧ (¬ M 0 2 = 0 → r = (bdR M x).1 ∧ (∀ c, 500 ≤ c → A' c = A c) ∧ (∀ j : Nat, j < 8 → A' 14 j = (bdR M x).2.2 j) ∧ ∃ B, Rel W P' B M ∧ ∀ c, c < 1000 → ¬ (3 ≤ c ∧ c ≤ 15) → A' c = B c))
theorem V109_0 {d : Nat} (hd : 14 ≤ d) {Q : Option Value → xM → Prop} {W : gW} (hW : HW W) {A : Nat → Int → Int} {P : Nat → Int → Nat} (hR : RG A) (hT : Stat W P) (hG : GL W) {x1 : Int} (rr : Rg x1) (h : (((x1 < 0) → Q (some (.int (iz (-2)))) (Wm W A P)) ∧ (¬ (x1 < 0) → (((x1 < (ishl 1 (A 0 12))) → (((P 0 15 = 0) → Q (some (.int (iz (-3)))) (Wm W A P)) ∧ (¬ (P 0 15 = 0) → wpE (xT 109) (xev xT d) Q (29, [(0, .ref (lo W 0)), (1, .int (iz x1)), (2, .int (iz 0))], [], Wm W A P)))) ∧ (¬ (x1 < (ishl 1 (A 0 12))) → Q (some (.int (iz (-2)))) (Wm W A P)))))) : wpE (xT 109) (xev xT d) Q (0, [(0, .ref (lo W 0)), (1, .int (iz x1))], [], Wm W A P) := by
  refine p_ild (cc3 c109_0) rfl ?_
  refine i_if (c' := x1 < 0) (cc3 c109_1) (c_lt0 rr) (fun c => ?_) (fun c => ?_)
  · have h := h.1 c
    refine p_lc (ls' := []) c109_14 rfl rfl ?_
    refine i_push (n := (-2)) (cct c109_14 rfl) zl_m2 ?_
    exact p_ri (cc3 c109_16) trivial h
  · have h := h.2 c
    refine p_ild (cc3 c109_4) rfl ?_
    refine i_push (n := 1) (cc3 c109_5) zl_1 ?_
    refine p_ald (cc3 c109_6) rfl ?_
    refine w_geti hW (v := A 0 12) (cc3 c109_7) (st_k hT 0 12 (by decide)) (ji := 12) rfl rfl ?_
    refine i_op (z := ishl 1 (A 0 12)) (cc3 c109_10) (iz_of _).symm ?_
    refine i_icmp (c' := x1 < (ishl 1 (A 0 12))) (cc3 c109_11) (iz_lt rr rg_ishl) (fun c => ?_) (fun c => ?_)
    · have h := h.1 c
      refine p_ald (cc3 c109_17) rfl ?_
      refine w_getz hW hT.1 (cc3 c109_18) (st_k hT 0 12 (by decide)) (ji := 15) rfl ?_ ?_
      · intro cz1
        have h := h.1 cz1
        refine p_ifnN (cc3 c109_21) ?_
        refine i_push (n := (-3)) (cc3 c109_24) zl_m3 ?_
        exact p_ri (cc3 c109_26) trivial h
      · intro cz1
        have h := h.2 cz1
        refine p_ifnR (cc3 c109_21) ?_
        refine i_push (n := 0) (cc3 c109_27) zl_0 ?_
        refine p_ist (ls' := [(2, .int (iz 0)), (0, .ref (lo W 0)), (1, .int (iz x1))]) (cc3 c109_28) (by decide) rfl ?_
        exact p_lc (ls' := [(0, .ref (lo W 0)), (1, .int (iz x1)), (2, .int (iz 0))]) c109_29 rfl rfl h
    · have h := h.2 c
      refine p_lc (ls' := []) c109_14 rfl rfl ?_
      refine i_push (n := (-2)) (cct c109_14 rfl) zl_m2 ?_
      exact p_ri (cc3 c109_16) trivial h
theorem V109_29 {d : Nat} (hd : 14 ≤ d) {Q : Option Value → xM → Prop} {W : gW} (hW : HW W) {A : Nat → Int → Int} {P : Nat → Int → Nat} (hR : RG A) (hT : Stat W P) (hG : GL W) {x1 x2 : Int} (rr : Rg x1 ∧ Rg x2) (h : (((4 ≤ x2) → wpE (xT 109) (xev xT d) Q (76, [(0, .ref (lo W 0)), (1, .int (iz x1)), (2, .int (iz 0))], [], Wm W A P)) ∧ (¬ (4 ≤ x2) → (CtO P A) ∧ (((¬ (0 ≤ x2 ∧ x2 < A 0 11)) → (0 ≤ x2 ∧ x2 < 4) ∧ (Rg (x2 + 1)) ∧ wpE (xT 109) (xev xT d) Q (29, [(0, .ref (lo W 0)), (1, .int (iz x1)), (2, .int (iz (x2 + 1)))], [], Wm W (UA A 13 x2 0) P)) ∧ (¬ (¬ (0 ≤ x2 ∧ x2 < A 0 11)) → (gK W (qB x2) = 1) ∧ ((((A (qB x2) 1) = 0) → (0 ≤ x2 ∧ x2 < 4) ∧ (Rg (x2 + 1)) ∧ wpE (xT 109) (xev xT d) Q (29, [(0, .ref (lo W 0)), (1, .int (iz x1)), (2, .int (iz (x2 + 1)))], [], Wm W (UA A 13 x2 (A (qB x2) 2)) P)) ∧ (¬ ((A (qB x2) 1) = 0) → (0 ≤ x2 ∧ x2 < 4) ∧ (Rg (x2 + 1)) ∧ wpE (xT 109) (xev xT d) Q (29, [(0, .ref (lo W 0)), (1, .int (iz x1)), (2, .int (iz (x2 + 1)))], [], Wm W (UA A 13 x2 0) P)))))))) : wpE (xT 109) (xev xT d) Q (29, [(0, .ref (lo W 0)), (1, .int (iz x1)), (2, .int (iz x2))], [], Wm W A P) := by
  refine p_ild (cct c109_29 rfl) rfl ?_
  refine i_push (n := 4) (cc3 c109_30) zl_4 ?_
  refine i_icmp (c' := 4 ≤ x2) (cc3 c109_31) (iz_le (by decide : Rg (4 : Int)) rr.2) (fun c => ?_) (fun c => ?_)
  · have h := h.1 c
    refine i_push (n := 0) (cc3 c109_74) zl_0 ?_
    refine p_ist (ls' := [(2, .int (iz 0)), (0, .ref (lo W 0)), (1, .int (iz x1))]) (cc3 c109_75) (by decide) rfl ?_
    exact p_lc (ls' := [(0, .ref (lo W 0)), (1, .int (iz x1)), (2, .int (iz 0))]) c109_76 rfl rfl h
  · have h := h.2 c
    refine p_ald (cc3 c109_34) rfl ?_
    refine p_ild (cc3 c109_35) rfl ?_
    obtain ⟨g1, h⟩ := h
    have he := S54 (Nat.le_trans (by decide) hd) hW hR hT hG rr.2 g1
    refine nul_c (c := ¬ (0 ≤ x2 ∧ x2 < A 0 11)) he (fun c he => ?_) (fun c he => ?_) <;> refine p_callV (cc3 c109_36) (Nat.le_of_ble_eq_true rfl) rfl rfl (Nat.le_of_ble_eq_true rfl) (wk_kd hW (by decide) (st_k hT 0 12 (by decide))) he ?_
    · have h := h.1 c
      refine p_astN (ls' := [(3, .null), (0, .ref (lo W 0)), (1, .int (iz x1)), (2, .int (iz x2))]) (cc3 c109_39) (by decide) rfl ?_
      refine p_ald (cc3 c109_40) rfl ?_
      refine w_getp hW hT.1 (b := 11) (cc3 c109_41) (st_k hT 0 12 (by decide)) (ji := 4) rfl (st_p hT 0 4 11 (by decide)) ?_
      refine w_getp hW hT.1 (b := 13) (cc3 c109_44) (st_k hT 11 2 (by decide)) (ji := 1) rfl (st_p hT 11 1 13 (by decide)) ?_
      refine p_ild (cc3 c109_47) rfl ?_
      refine p_aldN (cc3 c109_48) rfl ?_
      refine p_ifnN (cc3 c109_49) ?_
      refine p_lc (ls' := [(0, .ref (lo W 0)), (1, .int (iz x1)), (2, .int (iz x2))]) c109_66 rfl rfl ?_
      refine i_push (n := 0) (cct c109_66 rfl) zl_0 ?_
      obtain ⟨g2, h⟩ := h
      refine id (α := Rg 0 → _) (fun _ => ?_) (by decide : Rg (0 : Int)); refine w_asti hW (cct c109_67 rfl) (st_k hT 13 20 (by decide)) (st_i hT 13 4 (by decide) g2) rfl ?_
      obtain ⟨g3, h⟩ := h
      refine (fun _ : Rg (x2 + 1) => i_iinc (n := 1) (y := x2 + 1) (ls' := [(2, .int (iz (x2 + 1))), (0, .ref (lo W 0)), (1, .int (iz x1))]) (cc3 c109_68) (by decide) rfl zl_1 (by first | rfl | omega) rfl ?_) g3
      refine p_goto (cc3 c109_71) ?_
      exact p_lc (ls' := [(0, .ref (lo W 0)), (1, .int (iz x1)), (2, .int (iz (x2 + 1)))]) c109_29 rfl rfl h
    · have h := h.2 c
      refine p_ast (ls' := [(3, .ref (lo W (qB x2))), (0, .ref (lo W 0)), (1, .int (iz x1)), (2, .int (iz x2))]) (cc3 c109_39) (by decide) rfl ?_
      refine p_ald (cc3 c109_40) rfl ?_
      refine w_getp hW hT.1 (b := 11) (cc3 c109_41) (st_k hT 0 12 (by decide)) (ji := 4) rfl (st_p hT 0 4 11 (by decide)) ?_
      refine w_getp hW hT.1 (b := 13) (cc3 c109_44) (st_k hT 11 2 (by decide)) (ji := 1) rfl (st_p hT 11 1 13 (by decide)) ?_
      refine p_ild (cc3 c109_47) rfl ?_
      refine p_ald (cc3 c109_48) rfl ?_
      refine p_ifnR (cc3 c109_49) ?_
      refine p_ald (cc3 c109_52) rfl ?_
      obtain ⟨g2, h⟩ := h
      refine w_geti hW (v := A (qB x2) 1) (cc3 c109_53) g2 (ji := 1) rfl rfl ?_
      refine i_if (c' := (A (qB x2) 1) = 0) (cc3 c109_56) (c_eq0 (hR (qB x2) 1)) (fun c => ?_) (fun c => ?_)
      · have h := h.1 c
        refine p_ald (cc3 c109_59) rfl ?_
        refine w_geti hW (v := A (qB x2) 2) (cc3 c109_60) g2 (ji := 2) rfl rfl ?_
        refine p_goto (cc3 c109_63) ?_
        refine p_lc (ls' := [(0, .ref (lo W 0)), (1, .int (iz x1)), (2, .int (iz x2))]) c109_67 rfl rfl ?_
        obtain ⟨g3, h⟩ := h
        refine id (α := Rg (A (qB x2) 2) → _) (fun _ => ?_) (hR (qB x2) 2); refine w_asti hW (cct c109_67 rfl) (st_k hT 13 20 (by decide)) (st_i hT 13 4 (by decide) g3) rfl ?_
        obtain ⟨g4, h⟩ := h
        refine (fun _ : Rg (x2 + 1) => i_iinc (n := 1) (y := x2 + 1) (ls' := [(2, .int (iz (x2 + 1))), (0, .ref (lo W 0)), (1, .int (iz x1))]) (cc3 c109_68) (by decide) rfl zl_1 (by first | rfl | omega) rfl ?_) g4
        refine p_goto (cc3 c109_71) ?_
        exact p_lc (ls' := [(0, .ref (lo W 0)), (1, .int (iz x1)), (2, .int (iz (x2 + 1)))]) c109_29 rfl rfl h
      · have h := h.2 c
        refine p_lc (ls' := [(0, .ref (lo W 0)), (1, .int (iz x1)), (2, .int (iz x2))]) c109_66 rfl rfl ?_
        refine i_push (n := 0) (cct c109_66 rfl) zl_0 ?_
        obtain ⟨g3, h⟩ := h
        refine id (α := Rg 0 → _) (fun _ => ?_) (by decide : Rg (0 : Int)); refine w_asti hW (cct c109_67 rfl) (st_k hT 13 20 (by decide)) (st_i hT 13 4 (by decide) g3) rfl ?_
        obtain ⟨g4, h⟩ := h
        refine (fun _ : Rg (x2 + 1) => i_iinc (n := 1) (y := x2 + 1) (ls' := [(2, .int (iz (x2 + 1))), (0, .ref (lo W 0)), (1, .int (iz x1))]) (cc3 c109_68) (by decide) rfl zl_1 (by first | rfl | omega) rfl ?_) g4
        refine p_goto (cc3 c109_71) ?_
        exact p_lc (ls' := [(0, .ref (lo W 0)), (1, .int (iz x1)), (2, .int (iz (x2 + 1)))]) c109_29 rfl rfl h
theorem V109_76 {d : Nat} (hd : 14 ≤ d) {Q : Option Value → xM → Prop} {W : gW} (hW : HW W) {A : Nat → Int → Int} {P : Nat → Int → Nat} (hR : RG A) (hT : Stat W P) (hG : GL W) {x1 x2 : Int} (rr : Rg x1 ∧ Rg x2) (h : (((8 ≤ x2) → (KCp A) ∧ Q (some (.int (iz (kCA A 11 4)))) (Wm W (kCA A) P)) ∧ (¬ (8 ≤ x2) → ((((iand (ishr x1 x2) 1) = 1) → (CtO P A) ∧ (((¬ (0 ≤ x2 ∧ x2 < A 0 12)) → (0 ≤ x2 ∧ x2 < 8) ∧ (Rg (x2 + 1)) ∧ wpE (xT 109) (xev xT d) Q (76, [(0, .ref (lo W 0)), (1, .int (iz x1)), (2, .int (iz (x2 + 1)))], [], Wm W (UA A 12 x2 (-1)) P)) ∧ (¬ (¬ (0 ≤ x2 ∧ x2 < A 0 12)) → (((P 0 15 = 0) → False) ∧ (¬ (P 0 15 = 0) → (gK W (P 0 15 - 1) = 1) ∧ (¬ P (P 0 15 - 1) 0 = 0) ∧ (gK W (qK x2) = 3) ∧ (gK W (P (P 0 15 - 1) 0 - 1) = 6) ∧ ((¬ (A (qK x2) 9 = 0 ∨ (0 ≤ A (qK x2) 5 ∧ A (qK x2) 5 < A (P (P 0 15 - 1) 0 - 1) 0)) → (0 ≤ x2 ∧ x2 < 8) ∧ (Rg (x2 + 1)) ∧ wpE (xT 109) (xev xT d) Q (76, [(0, .ref (lo W 0)), (1, .int (iz x1)), (2, .int (iz (x2 + 1)))], [], Wm W (UA A 12 x2 (-1)) P)) ∧ ((A (qK x2) 9 = 0 ∨ (0 ≤ A (qK x2) 5 ∧ A (qK x2) 5 < A (P (P 0 15 - 1) 0 - 1) 0)) → (Rel W P A (mo A)) ∧ ((0 ≤ x2 ∧ x2 < (mo A) 0 13) ∧ 0 < (mo A) 0 2 ∧ m_hasS (mo A) x2 0) ∧ ((qK x2) = qK x2) ∧ (∀ (r_1 : Int) (A_1 : Nat → Int → Int) (P_1 : Nat → Int → Nat), Rg r_1 → RG A_1 → Stat W P_1 → (r_1 = (if m_need (mo A) x2 = 1000000 then -1 else m_need (mo A) x2) ∧ Rel W P_1 A_1 (mo A) ∧ NdF A A_1 x2 ∧ ∀ c : Nat, ¬ c = 8 → P_1 c = P c) → (0 ≤ x2 ∧ x2 < 8) ∧ (Rg (x2 + 1)) ∧ wpE (xT 109) (xev xT d) Q (76, [(0, .ref (lo W 0)), (1, .int (iz x1)), (2, .int (iz (x2 + 1)))], [], Wm W (UA A_1 12 x2 r_1) P_1))))))))) ∧ (¬ ((iand (ishr x1 x2) 1) = 1) → (0 ≤ x2 ∧ x2 < 8) ∧ (Rg (x2 + 1)) ∧ wpE (xT 109) (xev xT d) Q (76, [(0, .ref (lo W 0)), (1, .int (iz x1)), (2, .int (iz (x2 + 1)))], [], Wm W (UA A 12 x2 (-1)) P)))))) : wpE (xT 109) (xev xT d) Q (76, [(0, .ref (lo W 0)), (1, .int (iz x1)), (2, .int (iz x2))], [], Wm W A P) := by
  refine p_ild (cct c109_76 rfl) rfl ?_
  refine i_push (n := 8) (cc3 c109_77) zl_8 ?_
  refine i_icmp (c' := 8 ≤ x2) (cc3 c109_79) (iz_le (by decide : Rg (8 : Int)) rr.2) (fun c => ?_) (fun c => ?_)
  · have h := h.1 c
    refine p_ald (cc3 c109_143) rfl ?_
    refine w_getp hW hT.1 (b := 11) (cc3 c109_144) (st_k hT 0 12 (by decide)) (ji := 4) rfl (st_p hT 0 4 11 (by decide)) ?_
    obtain ⟨g1, h⟩ := h
    refine p_callV (cc3 c109_147) (Nat.le_of_ble_eq_true rfl) rfl rfl (Nat.le_of_ble_eq_true rfl) (wk_kd hW (by decide) (st_k hT 11 2 (by decide))) (S110 (Nat.le_trans (by decide) hd) hW hR hT hG g1) ?_
    exact p_ri (cc3 c109_150) trivial h
  · have h := h.2 c
    refine p_ild (cc3 c109_82) rfl ?_
    refine p_ild (cc3 c109_83) rfl ?_
    refine i_op (z := ishr x1 x2) (cc3 c109_84) (iz_of _).symm ?_
    refine i_push (n := 1) (cc3 c109_85) zl_1 ?_
    refine i_op (z := iand (ishr x1 x2) 1) (cc3 c109_86) (iz_of _).symm ?_
    refine i_push (n := 1) (cc3 c109_87) zl_1 ?_
    refine i_icmp (c' := (iand (ishr x1 x2) 1) = 1) (cc3 c109_88) (iz_inj rg_iand (by decide : Rg (1 : Int))) (fun c => ?_) (fun c => ?_)
    · have h := h.1 c
      refine p_ald (cc3 c109_91) rfl ?_
      refine p_ild (cc3 c109_92) rfl ?_
      obtain ⟨g1, h⟩ := h
      have he := S66 (Nat.le_trans (by decide) hd) hW hR hT hG rr.2 g1
      refine nul_c (c := ¬ (0 ≤ x2 ∧ x2 < A 0 12)) he (fun c he => ?_) (fun c he => ?_) <;> refine p_callV (cc3 c109_93) (Nat.le_of_ble_eq_true rfl) rfl rfl (Nat.le_of_ble_eq_true rfl) (wk_kd hW (by decide) (st_k hT 0 12 (by decide))) he ?_
      · have h := h.1 c
        refine p_goto (cc3 c109_96) ?_
        refine p_astN (ls' := [(3, .null), (0, .ref (lo W 0)), (1, .int (iz x1)), (2, .int (iz x2))]) (cct c109_100 rfl) (by decide) rfl ?_
        refine p_ald (cc3 c109_101) rfl ?_
        refine w_getp hW hT.1 (b := 11) (cc3 c109_102) (st_k hT 0 12 (by decide)) (ji := 4) rfl (st_p hT 0 4 11 (by decide)) ?_
        refine w_getp hW hT.1 (b := 12) (cc3 c109_105) (st_k hT 11 2 (by decide)) (ji := 0) rfl (st_p hT 11 0 12 (by decide)) ?_
        refine p_ild (cc3 c109_108) rfl ?_
        refine p_aldN (cc3 c109_109) rfl ?_
        refine p_ifnN (cc3 c109_110) ?_
        refine p_lc (ls' := [(0, .ref (lo W 0)), (1, .int (iz x1)), (2, .int (iz x2))]) c109_135 rfl rfl ?_
        refine i_push (n := (-1)) (cct c109_135 rfl) zl_m1 ?_
        obtain ⟨g2, h⟩ := h
        refine id (α := Rg (-1) → _) (fun _ => ?_) (by decide : Rg (-1 : Int)); refine w_asti hW (cct c109_136 rfl) (st_k hT 12 20 (by decide)) (st_i hT 12 8 (by decide) g2) rfl ?_
        obtain ⟨g3, h⟩ := h
        refine (fun _ : Rg (x2 + 1) => i_iinc (n := 1) (y := x2 + 1) (ls' := [(2, .int (iz (x2 + 1))), (0, .ref (lo W 0)), (1, .int (iz x1))]) (cc3 c109_137) (by decide) rfl zl_1 (by first | rfl | omega) rfl ?_) g3
        refine p_goto (cc3 c109_140) ?_
        exact p_lc (ls' := [(0, .ref (lo W 0)), (1, .int (iz x1)), (2, .int (iz (x2 + 1)))]) c109_76 rfl rfl h
      · have h := h.2 c
        refine p_goto (cc3 c109_96) ?_
        refine p_ast (ls' := [(3, .ref (lo W (qK x2))), (0, .ref (lo W 0)), (1, .int (iz x1)), (2, .int (iz x2))]) (cct c109_100 rfl) (by decide) rfl ?_
        refine p_ald (cc3 c109_101) rfl ?_
        refine w_getp hW hT.1 (b := 11) (cc3 c109_102) (st_k hT 0 12 (by decide)) (ji := 4) rfl (st_p hT 0 4 11 (by decide)) ?_
        refine w_getp hW hT.1 (b := 12) (cc3 c109_105) (st_k hT 11 2 (by decide)) (ji := 0) rfl (st_p hT 11 0 12 (by decide)) ?_
        refine p_ild (cc3 c109_108) rfl ?_
        refine p_ald (cc3 c109_109) rfl ?_
        refine p_ifnR (cc3 c109_110) ?_
        refine p_ald (cc3 c109_113) rfl ?_
        refine p_ald (cc3 c109_114) rfl ?_
        refine w_getz hW hT.1 (cc3 c109_115) (st_k hT 0 12 (by decide)) (ji := 15) rfl ?_ ?_
        · intro cz2
          have h := h.1 cz2
          exact h.elim
        · intro cz2
          have h := h.2 cz2
          obtain ⟨g3, h⟩ := h
          obtain ⟨g4, h⟩ := h
          refine w_getp0 hW hT.1 (cc3 c109_118) g3 (ji := 0) rfl g4 ?_
          obtain ⟨g5, h⟩ := h
          obtain ⟨g6, h⟩ := h
          refine p_callV (cc3 c109_121) (Nat.le_of_ble_eq_true rfl) rfl rfl (Nat.le_of_ble_eq_true rfl) (wk_kd hW (by decide) g5) (S68 (Nat.le_trans (by decide) hd) hW hR hT hG ⟨g5, g6⟩) ?_
          refine i_ifB (cc3 c109_124) (fun c => ?_) (fun c => ?_)
          · have h := h.1 c
            refine p_lc (ls' := [(0, .ref (lo W 0)), (1, .int (iz x1)), (2, .int (iz x2))]) c109_135 rfl rfl ?_
            refine i_push (n := (-1)) (cct c109_135 rfl) zl_m1 ?_
            obtain ⟨g7, h⟩ := h
            refine id (α := Rg (-1) → _) (fun _ => ?_) (by decide : Rg (-1 : Int)); refine w_asti hW (cct c109_136 rfl) (st_k hT 12 20 (by decide)) (st_i hT 12 8 (by decide) g7) rfl ?_
            obtain ⟨g8, h⟩ := h
            refine (fun _ : Rg (x2 + 1) => i_iinc (n := 1) (y := x2 + 1) (ls' := [(2, .int (iz (x2 + 1))), (0, .ref (lo W 0)), (1, .int (iz x1))]) (cc3 c109_137) (by decide) rfl zl_1 (by first | rfl | omega) rfl ?_) g8
            refine p_goto (cc3 c109_140) ?_
            exact p_lc (ls' := [(0, .ref (lo W 0)), (1, .int (iz x1)), (2, .int (iz (x2 + 1)))]) c109_76 rfl rfl h
          · have h := h.2 c
            refine p_ald (cc3 c109_127) rfl ?_
            refine p_ald (cc3 c109_128) rfl ?_
            obtain ⟨g7, h⟩ := h
            obtain ⟨g8, h⟩ := h
            obtain ⟨g9, h⟩ := h
            obtain ⟨r_1, A_1, P_1, he, hr_1, hR_1, hT_1, hp_1⟩ := S108 (A := A) (P := P) (Nat.le_trans (by decide) hd) hW hR hT hG (mo A) x2 ⟨g7, g8, g9⟩
            have h := h r_1 A_1 P_1 hr_1 hR_1 hT_1 hp_1
            refine p_callV (cc3 c109_129) (Nat.le_of_ble_eq_true rfl) rfl rfl (Nat.le_of_ble_eq_true rfl) (wk_kd hW (by decide) (st_k hT 0 12 (by decide))) he ?_
            refine p_goto (cc3 c109_132) ?_
            refine p_lc (ls' := [(0, .ref (lo W 0)), (1, .int (iz x1)), (2, .int (iz x2))]) c109_136 rfl rfl ?_
            obtain ⟨g10, h⟩ := h
            refine id (α := Rg r_1 → _) (fun _ => ?_) hr_1; refine w_asti hW (cct c109_136 rfl) (st_k hT_1 12 20 (by decide)) (st_i hT_1 12 8 (by decide) g10) rfl ?_
            obtain ⟨g11, h⟩ := h
            refine (fun _ : Rg (x2 + 1) => i_iinc (n := 1) (y := x2 + 1) (ls' := [(2, .int (iz (x2 + 1))), (0, .ref (lo W 0)), (1, .int (iz x1))]) (cc3 c109_137) (by decide) rfl zl_1 (by first | rfl | omega) rfl ?_) g11
            refine p_goto (cc3 c109_140) ?_
            exact p_lc (ls' := [(0, .ref (lo W 0)), (1, .int (iz x1)), (2, .int (iz (x2 + 1)))]) c109_76 rfl rfl h
    · have h := h.2 c
      refine p_push (cc3 c109_99) ?_
      refine p_astN (ls' := [(3, .null), (0, .ref (lo W 0)), (1, .int (iz x1)), (2, .int (iz x2))]) (cct c109_100 rfl) (by decide) rfl ?_
      refine p_ald (cc3 c109_101) rfl ?_
      refine w_getp hW hT.1 (b := 11) (cc3 c109_102) (st_k hT 0 12 (by decide)) (ji := 4) rfl (st_p hT 0 4 11 (by decide)) ?_
      refine w_getp hW hT.1 (b := 12) (cc3 c109_105) (st_k hT 11 2 (by decide)) (ji := 0) rfl (st_p hT 11 0 12 (by decide)) ?_
      refine p_ild (cc3 c109_108) rfl ?_
      refine p_aldN (cc3 c109_109) rfl ?_
      refine p_ifnN (cc3 c109_110) ?_
      refine p_lc (ls' := [(0, .ref (lo W 0)), (1, .int (iz x1)), (2, .int (iz x2))]) c109_135 rfl rfl ?_
      refine i_push (n := (-1)) (cct c109_135 rfl) zl_m1 ?_
      obtain ⟨g1, h⟩ := h
      refine id (α := Rg (-1) → _) (fun _ => ?_) (by decide : Rg (-1 : Int)); refine w_asti hW (cct c109_136 rfl) (st_k hT 12 20 (by decide)) (st_i hT 12 8 (by decide) g1) rfl ?_
      obtain ⟨g2, h⟩ := h
      refine (fun _ : Rg (x2 + 1) => i_iinc (n := 1) (y := x2 + 1) (ls' := [(2, .int (iz (x2 + 1))), (0, .ref (lo W 0)), (1, .int (iz x1))]) (cc3 c109_137) (by decide) rfl zl_1 (by first | rfl | omega) rfl ?_) g2
      refine p_goto (cc3 c109_140) ?_
      exact p_lc (ls' := [(0, .ref (lo W 0)), (1, .int (iz x1)), (2, .int (iz (x2 + 1)))]) c109_76 rfl rfl h
theorem L109a {d : Nat} (hd : 14 ≤ d) {Q : Option Value → xM → Prop} {W : gW} (hW : HW W) {P : Nat → Int → Nat} (hT : Stat W P) (hG : GL W) {x1 : Int} (rx : Rg x1) {A0 : Nat → Int → Int} (h0 : Rel W P A0 (mo A0))
    (hQ : ∀ A', RG A' → (∀ c, ¬ c = 13 → A' c = A0 c) → (∀ b : Nat, b < 4 → A' 13 b = bdL (mo A0) b) → wpE (xT 109) (xev xT d) Q (76, [(0, .ref (lo W 0)), (1, .int (iz x1)), (2, .int (iz 0))], [], Wm W A' P)) : ∀ (r x : Nat) (A : Nat → Int → Int), x + r = 4 → RG A → (∀ c, ¬ c = 13 → A c = A0 c) → (∀ b : Nat, b < x → A 13 b = bdL (mo A0) b) → wpE (xT 109) (xev xT d) Q (29, [(0, .ref (lo W 0)), (1, .int (iz x1)), (2, .int (iz (x : Int)))], [], Wm W A P) := by
  intro r
  induction r with
  | zero =>
    intro x A hx hR hF h13
    have e : x = 4 := by omega
    subst e
    exact V109_29 hd hW hR hT hG ⟨rx, by decide⟩ ⟨fun _ => hQ A hR hF h13, fun z => absurd (by decide) z⟩
  | succ r ih =>
    intro x A hx hR hF h13
    have nx : ∀ v : Int, Rg v → v = bdL (mo A0) x → (0 ≤ (x : Int) ∧ (x : Int) < 4) ∧ Rg ((x : Int) + 1) ∧ wpE (xT 109) (xev xT d) Q (29, [(0, .ref (lo W 0)), (1, .int (iz x1)), (2, .int (iz ((x : Int) + 1)))], [], Wm W (UA A 13 x v) P) := fun v hv e => by
      refine ⟨by omega, by constructor <;> omega, ih (x + 1) _ (by omega) (rg_UA hR hv) (fun c hc => by rw [UA_n hc]; exact hF c hc) (fun b hb => ?_)⟩
      by_cases c : b = x
      · subst c; rw [UA_eq]; exact e
      · rw [UA_j (by omega)]; exact h13 b (by omega)
    have n2 : A 0 11 = mo A0 0 8 := by rw [hF 0 (by decide)]; exact h0.cn.2.1
    have ct : CtO P A := by
      have := h0.cto
      unfold CtO at this ⊢
      rw [hF 0 (by decide)]
      exact this
    refine V109_29 hd hW hR hT hG ⟨rx, by constructor <;> omega⟩ ⟨fun z => absurd z (by omega), fun _ => ⟨ct, fun z => nx 0 (by decide) ?_, fun z => ?_⟩⟩
    · unfold bdL; rw [if_neg (fun w => z (by omega))]
    · have z' := Classical.not_not.mp z
      have hb := h0.bo (b := (x : Int)) (by omega) (by omega)
      have q := qB_d (s := (x : Int))
      have eb : A (qB x) = A0 (qB x) := hF _ (by omega)
      refine ⟨hb.1.1.1, fun c => nx _ (hR _ _) ?_, fun c => nx 0 (by decide) ?_⟩
      · rw [eb, hb.2.1.1] at c
        unfold bdL
        rw [if_pos ⟨by omega, c⟩, eb, hb.2.1.2.1]
      · rw [eb, hb.2.1.1] at c
        unfold bdL
        rw [if_neg (fun w => c w.2)]
theorem L109b {d : Nat} (hd : 14 ≤ d) {Q : Option Value → xM → Prop} {W : gW} (hW : HW W) (hG : GL W) {x1 : Int} (rx : Rg x1) {A0 : Nat → Int → Int} (h2 : 0 < mo A0 0 2)
    (hQ : ∀ A' P', RG A' → Stat W P' → BdI W P' A' A0 x1 8 → Q (some (.int (iz (kCA A' 11 4)))) (Wm W (kCA A') P')) : ∀ (r x : Nat) (A : Nat → Int → Int) (P : Nat → Int → Nat), x + r = 8 → RG A → Stat W P → BdI W P A A0 x1 x → wpE (xT 109) (xev xT d) Q (76, [(0, .ref (lo W 0)), (1, .int (iz x1)), (2, .int (iz (x : Int)))], [], Wm W A P) := by
  intro r
  induction r with
  | zero =>
    intro x A P hx hR hT hI
    have e : x = 8 := by omega
    subst e
    exact V109_76 hd hW hR hT hG ⟨rx, by decide⟩ ⟨fun _ => ⟨hI.kcp, hQ A P hR hT hI⟩, fun z => absurd (by decide) z⟩
  | succ r ih =>
    intro x A P hx hR hT hI
    obtain ⟨h0, hF, h13, h12⟩ := id hI
    have em : mo A = mo A0 := funext fun c => hF _ (by omega)
    have nx : ∀ (B : Nat → Int → Int) (P1 : Nat → Int → Nat) (v : Int), Rg v → RG B → Stat W P1 → BdI W P1 B A0 x1 x → NdK (mo A0) x1 x v → (0 ≤ (x : Int) ∧ (x : Int) < 8) ∧ Rg ((x : Int) + 1) ∧ wpE (xT 109) (xev xT d) Q (76, [(0, .ref (lo W 0)), (1, .int (iz x1)), (2, .int (iz ((x : Int) + 1)))], [], Wm W (UA B 12 x v) P1) := fun B P1 v hv hB hT1 hI1 hN => ⟨by omega, by constructor <;> omega, ih (x + 1) _ _ (by omega) (rg_UA hB hv) hT1 (hI1.step hN)⟩
    have n3 : A 0 12 = mo A0 0 13 := h0.cn.2.2.1
    obtain ⟨w1, w2, w3, w4, w5⟩ := h0.wb.2 h2
    have e1 : P 0 15 - 1 = 240 := by rw [w1]
    have e2 : P 240 0 - 1 = 100 := by rw [w5]
    refine V109_76 hd hW hR hT hG ⟨rx, by constructor <;> omega⟩ ?_
    rw [em]
    refine ⟨fun z => absurd z (by omega), fun _ => ⟨fun c => ⟨h0.cto, fun z => nx A P (-1) (by decide) hR hT hI ⟨fun w => absurd (by omega) z, fun _ => rfl, by decide⟩, fun z => ⟨fun w => absurd w (by omega), fun _ => ?_⟩⟩, fun c => nx A P (-1) (by decide) hR hT hI ⟨fun w => ⟨fun _ z => c ?_, fun z => absurd rfl z⟩, fun _ => rfl, by decide⟩⟩⟩
    · have z' := Classical.not_not.mp z
      have ki := h0.ki (k := (x : Int)) (by omega) (by omega)
      have hk := (h0.ok.2.2.1.2 (x : Int) (by omega) (by omega)).1
      obtain ⟨n0, n1, n2, n3', n4, n5, n6, n7, n8, n9, n12⟩ := ki.2.2.1
      have hse := h0.se (s := 0) (Int.le_refl 0) h2
      have q100 : qS 0 = 100 := rfl
      have hS := hse.1.1.1
      have e0 := hse.2.1.1
      rw [q100] at hS e0
      have hcond : (A (qK x) 9 = 0 ∨ (0 ≤ A (qK x) 5 ∧ A (qK x) 5 < A 100 0)) ↔ m_hasS (mo A0) x 0 := by
        unfold m_hasS
        rw [n9, n5, e0]
        have := hk.2.2.2.2.2.1
        constructor
        · rintro (y | y)
          · exact Or.inl y
          · exact Or.inr y.2
        · rintro (y | y)
          · exact Or.inl y
          · exact Or.inr ⟨this.1, y⟩
      have tt : bdT x1 x = true := by unfold bdT; rw [c]; decide
      have en : bdNd (mo A0) x1 x = m_need (mo A0) x := by unfold bdNd; rw [if_pos (by omega), if_pos c]
      have hb := m_need_b (A := mo A0) (k := (x : Int)) (h0.ok.1.2 0 (Int.le_refl 0) h2) hk (by omega)
      rw [e1, e2]
      refine ⟨w2.1.1, by rw [w5]; decide, ki.1.1, hS, fun y => nx A P (-1) (by decide) hR hT hI ⟨fun w => ⟨fun _ z3 => ?_, fun z3 => absurd rfl z3⟩, fun _ => rfl, by decide⟩, fun y => ⟨h0, ⟨⟨by omega, by omega⟩, h2, hcond.mp y⟩, rfl, fun r_1 A1 P1 rr1 RA1 TP1 hq => ?_⟩⟩
      · have : m_need (mo A0) x = 1000000 := by unfold m_need; rw [if_neg (fun w => y (hcond.mpr w))]
        rw [en, this] at z3
        exact absurd z3.2 (by decide)
      · obtain ⟨q1, q2, q3, q4⟩ := hq
        have qk := qK_d (s := (x : Int))
        have k8 := h0.ok.2.2.1.1
        have f3 : ∀ c, ¬ c = 8 → ¬ c = 9 → ¬ c = 10 → ¬ c = qK x → A1 c = A c := q3.1
        refine nx A1 P1 r_1 rr1 RA1 TP1 ⟨q2, fun c hc => by rw [f3 c (by omega) (by omega) (by omega) (by omega)]; exact hF c hc, fun b hb => by rw [f3 13 (by decide) (by decide) (by decide) (by omega)]; exact h13 b hb, fun q hq => by rw [f3 12 (by decide) (by decide) (by decide) (by omega)]; exact h12 q hq⟩ ⟨fun w => ⟨fun z3 z4 => ?_, fun z3 => ⟨tt, ?_⟩⟩, fun w => absurd w (by omega), ?_⟩
        · rw [en] at z4
          by_cases c3 : m_need (mo A0) x = 1000000
          · rw [c3] at z4; exact absurd z4.2 (by decide)
          · rw [if_neg c3] at q1; omega
        · rw [en]
          by_cases c3 : m_need (mo A0) x = 1000000
          · rw [if_pos c3] at q1; exact absurd q1 z3
          · rw [if_neg c3] at q1; omega
        · rw [q1]; split <;> omega
    · have := z.1
      unfold bdT at this
      have t1 := of_decide_eq_true this
      rcases iand_1 (x := ishr x1 x) with y | y
      · exact absurd y t1
      · exact y
theorem S109 {d : Nat} (hd : 15 ≤ d) {W : gW} (hW : HW W) {A : Nat → Int → Int} {P : Nat → Int → Nat} (hR : RG A) (hT : Stat W P) (hG : GL W) {x1 : Int} (rr : Rg x1) (hp : (RelA W P A)) : ∃ (r : Int) (A' : Nat → Int → Int) (P' : Nat → Int → Nat), xev xT d 109 [.ref (lo W 0), .int (iz x1)] (Wm W A P) (some (.int (iz r))) (Wm W A' P') ∧ Rg r ∧ RG A' ∧ Stat W P' ∧ (BandP (mo A) A W P x1 r A' P') := by
  refine xev_g (i := 109) (as := [.ref (lo W 0), .int (iz x1)]) (σ := Wm W A P) (Q := fun r_ σ_ => ∃ (r : Int) (A' : Nat → Int → Int) (P' : Nat → Int → Nat), r_ = (some (.int (iz r))) ∧ σ_ = Wm W A' P' ∧ Rg r ∧ RG A' ∧ Stat W P' ∧ (BandP (mo A) A W P x1 r A' P')) (D := 14) hd (Nat.le_of_ble_eq_true rfl) (fun r_ σ_ he hq => ?_) (fun d hd => V109_0 hd hW hR hT hG rr ?_)
  · obtain ⟨r, A', P', rfl, rfl, hq⟩ := hq
    exact ⟨r, A', P', he, hq⟩

  obtain ⟨hn1, hn2, hn3, hn4, hn5, hn6⟩ := hp.cn
  have k8 := hp.ok.2.2.1.1
  have out : ¬ (0 ≤ x1 ∧ x1 ≤ ishl 1 (mo A 0 13) - 1) → ∃ (r : Int) (A' : Nat → Int → Int) (P' : Nat → Int → Nat), some (Value.int (iz (-2))) = some (Value.int (iz r)) ∧ Wm W A P = Wm W A' P' ∧ Rg r ∧ RG A' ∧ Stat W P' ∧ BandP (mo A) A W P x1 r A' P' := fun z => ⟨-2, A, P, rfl, rfl, by decide, hR, hT, fun _ => ⟨rfl, rfl, rfl⟩, fun y => absurd y z⟩
  rw [hn3]
  refine ⟨fun z => out (by omega), fun z => ⟨fun z2 => ⟨fun z3 => ⟨-3, A, P, rfl, rfl, by decide, hR, hT, fun y => absurd (by omega) y, fun _ => ⟨fun _ => ⟨rfl, rfl, rfl⟩, fun y => ?_⟩⟩, fun z3 => ?_⟩, fun z2 => out (by omega)⟩⟩
  · have s4 := hp.ok.1.1
    have := (hp.wb.2 (by omega)).1
    omega
  · have h2 : ¬ mo A 0 2 = 0 := fun c => z3 (hp.wb.1 c)
    have s4 := hp.ok.1.1
    refine L109a hd hW hT hG rr hp (fun A1 RA1 hF1 h13 => L109b hd hW hG rr (A0 := A) (by omega) (fun A2 P2 RA2 TP2 hI => ?_) 8 0 A1 P rfl RA1 hT ⟨hp.rows (fun c _ q => hF1 c (by omega)), fun c hc => hF1 c (by omega), h13, fun q hq => absurd hq (by omega)⟩) 4 0 A rfl hR (fun _ _ => rfl) (fun q hq => absurd hq (by omega))
    have hK := hI.kcp
    obtain ⟨i1, i2, i3, i4⟩ := hI
    obtain ⟨e1, e2⟩ := cut_k (M := mo A) (set := x1) RA2 hK ⟨by omega, fun k hk => ⟨fun w => (i4 k hk).1 (by omega), fun w => (i4 k hk).2.1 (by omega)⟩⟩ (fun b hb => ⟨i3 b hb, bdL_4 hp.ok.2.1 hb⟩) i1.cu
    obtain ⟨x1e, x2e, x3e⟩ := e1
    have f : ∀ c, ¬ c = 11 → ¬ c = 14 → ¬ c = 15 → kCA A2 c = A2 c := fun c q1 q2 q3 => e2.1 c (by simp; omega) q1
    exact ⟨_, _, P2, rfl, rfl, rg_kCA RA2 hK _ _, rg_kCA RA2 hK, TP2, fun y => absurd (by omega) y, fun _ => ⟨fun y => absurd y h2, fun _ => ⟨x1e, fun c hc => by rw [f c (by omega) (by omega) (by omega)]; exact i2 c hc, x3e, A2, i1, fun c _ q => f c (by omega) (by omega) (by omega)⟩⟩⟩

theorem cl_21 {W : gW} {P : Nat → Int → Nat} {A : Nat → Int → Int} (h : Sta W P A) {x1 : Int} (rr : Rg x1) : Cll 109 192 [.int (iz x1)] W P A := by
  have hr := h.2.2.2.2
  obtain ⟨r, A', P', hx, r1, r2, r3, r4⟩ := S109 (d := 190) (by decide) h.1 h.2.1 h.2.2.1 h.2.2.2.1 rr hr
  by_cases ok : 0 ≤ x1 ∧ x1 ≤ ishl 1 (mo A 0 13) - 1
  · obtain ⟨c1, c2⟩ := r4.2 ok
    by_cases c : mo A 0 2 = 0
    · obtain ⟨w1, w2, w3⟩ := c1 c
      obtain ⟨rm, M', hm, m1, m2, m3, m4⟩ := S192 (d := 190) (by decide) (h.ml2 (W := W) h.2.2.1.1 hr.mod A) (rg_mo h.2.1) rr ⟨hr.ok.1, hr.ok.2.1, hr.ok.2.2.1⟩
      obtain ⟨m5, m6⟩ := (m4 ok).1 c
      rw [w1, w2, w3, ← m5] at hx
      rw [m6] at hm
      exact stp_ro h hx hm
    · obtain ⟨w1, w2, w3, B, w4, w5⟩ := c2 c
      obtain ⟨rm, M', hm, m1, m2, m3, m4⟩ := S192 (d := 190) (by decide) (h.ml2 (W := W) r3.1 w4.mod A') (rg_mo h.2.1) rr ⟨hr.ok.1, hr.ok.2.1, hr.ok.2.2.1⟩
      obtain ⟨m5, m6, m7⟩ := (m4 ok).2 c
      rw [w1, ← m6] at hx
      refine stp_m2 hx (mo_n fun q hq => w2 q (by omega)) hm h.1 r2 m2 r3 h.2.2.2.1 (w4.mnf2 w5 m5 (fun j hj => ?_)) ⟨⟨rfl, rfl, rfl⟩, ⟨rfl, rfl⟩, w2 540 (by decide)⟩ ⟨Nat.le_add_right _ _, Nat.le_add_right _ _⟩
      rw [w3 j hj, m7 j hj]
  · obtain ⟨w1, w2, w3⟩ := r4.1 ok
    obtain ⟨rm, M', hm, m1, m2, m3, m4⟩ := S192 (d := 190) (by decide) (h.ml2 (W := W) h.2.2.1.1 hr.mod A) (rg_mo h.2.1) rr ⟨hr.ok.1, hr.ok.2.1, hr.ok.2.2.1⟩
    obtain ⟨m5, m6⟩ := m3 ok
    rw [w1, w2, w3, ← m5] at hx
    rw [m6] at hm
    exact stp_ro h hx hm
