section LOOP
variable {Q : Option Value → xM → Prop} {b x m L sz sl : Nat} {S : Int → Int} {σ : xM} {i : Int}
theorem LwI.mono {sz' sl' : Nat} (h : LwI σ b x m L S sz sl) (h1 : sz ≤ sz') (h2 : sl ≤ sl') : LwI σ b x m L S sz' sl' := by
  obtain ⟨W, P, A, q0, q1, q2, q3, q4, g1, g2⟩ := h
  exact ⟨W, P, A, q0, q1, q2, q3, q4, Nat.le_trans g1 h1, Nat.le_trans g2 h2⟩
theorem LwI.scr (h : LwI σ b x m L S sz sl) : ScR σ b L S := by
  obtain ⟨W, P, A, rfl, hS, ⟨e1, -⟩, hk, hA, -⟩ := h
  exact scr_W hS.1 e1 hk hA
theorem lw_sw (h : LwI σ b x m L S sz sl) (hi : 0 ≤ i ∧ i + 6 ≤ L ∧ L ≤ 3072) (hS : ∀ j, Rg (S j)) (hN : ∀ σ', LwI σ' b x m L S (sz + 20) (sl + 2000) → wpL Q (1157, LwS b x m i, [], σ')) {k : Int32} : wpL Q (33, LwS b x m i, [.int k], σ) := by
  refine p_sw (cc3 cL_33) ?_
  exact ⟨fun _ => lw_c0 h hi hS hN, fun _ => ⟨fun _ => lw_c1 h hi hS hN, fun _ => ⟨fun _ => lw_c2 h hi hS hN, fun _ => ⟨fun _ => lw_c3 h hi hS hN, fun _ => ⟨fun _ => lw_c4 h hi hS hN, fun _ => ⟨fun _ => lw_c5 h hi hS hN, fun _ => ⟨fun _ => lw_c6 h hi hS hN, fun _ => ⟨fun _ => lw_c7 h hi hS hN, fun _ => ⟨fun _ => lw_c8 h hi hS hN, fun _ => ⟨fun _ => lw_c9 h hi hS hN, fun _ => ⟨fun _ => lw_c10 h hi hS hN, fun _ => ⟨fun _ => lw_c11 h hi hS hN, fun _ => ⟨fun _ => lw_c12 h hi hS hN, fun _ => ⟨fun _ => lw_c13 h hi hS hN, fun _ => ⟨fun _ => lw_c14 h hi hS hN, fun _ => ⟨fun _ => lw_c15 h hi hS hN, fun _ => ⟨fun _ => lw_c16 h hi hS hN, fun _ => ⟨fun _ => lw_c17 h hi hS hN, fun _ => ⟨fun _ => lw_c18 h hi hS hN, fun _ => ⟨fun _ => lw_c19 h hi hS hN, fun _ => ⟨fun _ => lw_c20 h hi hS hN, fun _ => ⟨fun _ => lw_c21 h hi hS hN, fun _ => ⟨fun _ => lw_c22 h hi hS hN, fun _ => ⟨fun _ => lw_c23 h hi hS hN, fun _ => ⟨fun _ => lw_c24 h hi hS hN, fun _ => ⟨fun _ => lw_c25 h hi hS hN, fun _ => ⟨fun _ => lw_c26 h hi hS hN, fun _ => ⟨fun _ => lw_c27 h hi hS hN, fun _ => hN _ (h.mono (Nat.le_add_right _ _) (Nat.le_add_right _ _))⟩⟩⟩⟩⟩⟩⟩⟩⟩⟩⟩⟩⟩⟩⟩⟩⟩⟩⟩⟩⟩⟩⟩⟩⟩⟩⟩⟩
theorem lw_loop (hS : ∀ j, Rg (S j)) (hL : L ≤ 3072) (hQ : ∀ σ', LwI σ' b x m L S (sz + 10260) (sl + 1026000) → Q (some (.int 1)) σ') : ∀ (r n : Nat) (σ : xM), n + r = 513 → LwI σ b x m L S (sz + 20 * n) (sl + 2000 * n) → wpL Q (18, LwS b x m (6 * (n : Int)), [], σ) := by
  intro r
  induction r with
  | zero =>
    intro n σ hn h
    have hs := h.scr
    refine p_ild (cct cL_18 rfl) rfl ?_
    refine p_ald (cc3 cL_19) rfl ?_
    refine p_len (cc3 cL_20) hs.1 hs.2.1 ?_
    refine p_push (cc3 cL_21) ?_
    refine p_bin (cc3 cL_23) ?_
    refine p_icmp (cc3 cL_24) (fun _ => ?_) (fun z => absurd ?_ z)
    · refine p_push (cc3 cL_1163) (p_ri (cc3 cL_1164) (Or.inr rfl) (hQ σ (h.mono (by omega) (by omega))))
    · show Int32.ofNat L - 6 < iz (6 * (n : Int))
      rw [iz_n, show (6 : Int32) = iz 6 by decide, iz_sub]
      exact (iz_lt ⟨by omega, by omega⟩ ⟨by omega, by omega⟩).mpr (by omega)
  | succ r ih =>
    intro n σ hn h
    have hs := h.scr
    refine p_ild (cct cL_18 rfl) rfl ?_
    refine p_ald (cc3 cL_19) rfl ?_
    refine p_len (cc3 cL_20) hs.1 hs.2.1 ?_
    refine p_push (cc3 cL_21) ?_
    refine p_bin (cc3 cL_23) ?_
    refine p_icmp (cc3 cL_24) (fun _ => ?_) (fun z => ?_)
    · refine p_push (cc3 cL_1163) (p_ri (cc3 cL_1164) (Or.inr rfl) (hQ σ (h.mono (by omega) (by omega))))
    · have hi : 6 * (n : Int) + 6 ≤ L := by
        apply Classical.byContradiction
        intro c
        refine z ?_
        show Int32.ofNat L - 6 < iz (6 * (n : Int))
        rw [iz_n, show (6 : Int32) = iz 6 by decide, iz_sub]
        exact (iz_lt ⟨by omega, by omega⟩ ⟨by omega, by omega⟩).mpr (by omega)
      refine l_arg0 hs ⟨by omega, hi, hL⟩ cL_27 cL_28 cL_29 ?_
      refine p_push (cc3 cL_30) (p_bin (cc3 cL_32) ?_)
      refine lw_sw h ⟨by omega, hi, hL⟩ hS (fun σ' h' => ?_)
      refine p_iinc (cct cL_1157 rfl) (by decide) rfl (y := iz (6 * ((n + 1 : Nat) : Int))) ?_ rfl ?_
      · show iz (6 * (n : Int)) + 6 = _
        rw [show (6 : Int32) = iz 6 by decide, iz_add]
        exact congrArg iz (by omega)
      · refine p_goto (cc3 cL_1160) ?_
        refine p_lc (ls' := LwS b x m (6 * ((n + 1 : Nat) : Int))) cL_18 rfl rfl ?_
        exact ih (n + 1) σ' (by omega) (h'.mono (by omega) (by omega))
end LOOP
/-- the law from its first call on: one end -/
theorem law_run {b x m L sz sl : Nat} {S : Int → Int} {σ : xM} (hS : ∀ j, Rg (S j)) (hL : L ≤ 3072) (h : LwI σ b x m L S sz sl) : wpL (fun r σ' => r = some (.int 1) ∧ LwI σ' b x m L S (sz + 10260) (sl + 1026000)) (18, LwS b x m 0, [], σ) :=
  lw_loop (sz := sz) (sl := sl) hS hL (fun σ' h' => ⟨rfl, h'⟩) 513 0 σ rfl h
