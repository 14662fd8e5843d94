theorem law_begin {W0 : gW} {P0 : Nat → Int → Nat} {A0 : Nat → Int → Int} {L : Nat} (hW : HW W0) (hT : HR W0 P0) (hR : RG A0) (hG : GL W0) (kz : ∀ c, c < 500 ∨ 541 ≤ c → gK W0 c = 0) (zA : ∀ c, c < 500 ∨ 541 ≤ c → A0 c = fun _ => 0) (zP : ∀ c, c < 500 ∨ 541 ≤ c → P0 c = fun _ => 0) (hs : StrA A0) (hp : ∀ j, j < 12 → P0 (500 + 2 * j) 30 = 501 + 2 * j + 1) (k540 : gK W0 540 = 40 ∧ gL W0 540 = L) (hL : L ≤ 3072) : wpL (fun r σ => r = some (.int 1) ∧ ∃ x m, LwI σ (lo W0 540) x m L (A0 540) (gsz W0 + 10400) (gsl W0 + 1400000)) (0, [(0, .ref (lo W0 540))], [], Wm W0 A0 P0) := by
  have kz0 := kz 0 (Or.inl (by decide))
  refine w_new hW hT (cc3 cL_0) 0 kz0 (fun Wa ea hWa => ?_)
  subst ea
  have hTa : HR (gN W0 0 (11 + 1) 16) P0 := by
    have := hT.gN (k := 11 + 1) (n := 16) kz0
    rw [ZP_z (zP 0 (Or.inl (by decide)))] at this
    exact this
  rw [ZA_z (zA 0 (Or.inl (by decide))), ZP_z (zP 0 (Or.inl (by decide)))]
  refine p_dup (cc3 cL_3) rfl ?_
  obtain ⟨Wb, Pb, Ab, A3, x0, hr, h3⟩ := S0 (d := 200) (by decide) hWa hTa hR (hG.gN kz0) ⟨gN_K_e, gN_L_e⟩ (fun c q1 q2 => by rw [gN_K_n (by omega)]; exact kz c (Or.inl q2)) (fun c q => zA c (Or.inl q)) (fun c q => zP c (Or.inl q)) hs hp
  refine p_callI (cc3 cL_4) (Nat.le_of_ble_eq_true rfl) rfl rfl (Nat.le_of_ble_eq_true rfl) x0 ?_
  obtain ⟨⟨hWb, hRb, hTb, hGb⟩, r2, ⟨r3, r3'⟩, r4, r5, r6, r7, r8, r9⟩ := id hr
  have kb : ∀ c, ¬ (400 ≤ c ∧ c < 403) → (c = 0 ∨ 29 ≤ c) → gK Wb c = gK (gN W0 0 (11 + 1) 16) c ∧ gL Wb c = gL (gN W0 0 (11 + 1) 16) c ∧ lo Wb c = lo (gN W0 0 (11 + 1) 16) c := fun c q1 q2 => by
    have e := kuo_14 (W := gN W0 0 (11 + 1) 16) q2
    rw [← e.1, ← e.2.1, ← e.2.2]
    exact r2 c q1
  have kc : ∀ c, 541 ≤ c → gK Wb c = 0 := fun c q => by rw [(kb c (by omega) (Or.inr (by omega))).1, gN_K_n (by omega)]; exact kz c (Or.inr q)
  have zb : ∀ c, 541 ≤ c → Ab c = fun _ => 0 := fun c q => by rw [r7 c (by omega) (by omega) (by omega) (by omega) (by omega), h3 c (by omega) (by omega), ka_n (by omega)]; exact zA c (Or.inr q)
  have zq : ∀ c, 541 ≤ c → Pb c = fun _ => 0 := fun c q => by rw [r5 c (by omega) (by omega) (by omega), kqo_14 (by omega)]; exact zP c (Or.inr q)
  have lx : lo Wb 0 = lo (gN W0 0 (11 + 1) 16) 0 := (kb 0 (by decide) (Or.inl rfl)).2.2
  have lb : lo Wb 540 = lo W0 540 := (kb 540 (by decide) (Or.inr (by decide))).2.2.trans (gN_lo_n (by decide))
  show wpL _ (7, [(0, .ref (lo W0 540))], [.ref (lo (gN W0 0 (11 + 1) 16) 0)], Wm Wb Ab Pb)
  rw [← lx, ← lb]
  refine p_ast (ls' := [(1, .ref (lo Wb 0)), (0, .ref (lo Wb 540))]) (cc3 cL_7) (by decide) rfl ?_
  refine w_new hWb hTb.1 (cc3 cL_8) 1000 (kc 1000 (by decide)) (fun Wc ec hWc => ?_)
  subst ec
  have hTc : HR (gN Wb 1000 (12 + 1) 67) Pb := by
    have := hTb.1.gN (k := 12 + 1) (n := 67) (kc 1000 (by decide))
    rw [ZP_z (zq 1000 (by decide))] at this
    exact this
  rw [ZA_z (zb 1000 (by decide)), ZP_z (zq 1000 (by decide))]
  refine p_dup (cc3 cL_11) rfl ?_
  have hin : IniM Wb Pb (gN Wb 1000 (12 + 1) 67) Pb 1 0 := by
    have l0 : lo (gN Wb 1000 (12 + 1) 67) 1000 = gsz Wb := by rw [gN_lo, if_pos rfl]
    refine ⟨⟨hWc, hTc⟩, fun c hc => ?_, fun c hc => ?_, ⟨by rw [l0]; rfl, l0, ?_⟩, fun c hc => ⟨gN_K_n (by omega), gN_L_n (by omega), gN_lo_n (by omega)⟩, rfl, fun j hj => absurd hj (by omega), fun _ _ => rfl⟩
    · have e : c = 0 := by omega
      subst e
      exact ⟨gN_K_e, gN_L_e, rfl⟩
    · rw [gN_K_n (by omega)]; exact kc _ (by omega)
    · show gsl Wb + 67 ≤ _; omega
  obtain ⟨Wd, Pd, x126, hi, ld⟩ := S126 (d := 200) (by decide) hin (A := Ab) (fun c => zb _ (by omega)) (fun c hc => zq c (by omega))
  refine p_callI (cc3 cL_12) (Nat.le_of_ble_eq_true rfl) rfl rfl (Nat.le_of_ble_eq_true rfl) x126 ?_
  obtain ⟨⟨hWd, hTd⟩, i2, i3, ⟨i4, i4', i4''⟩, i5, i6, i7, i8⟩ := id hi
  show wpL _ (15, [(1, .ref (lo Wb 0)), (0, .ref (lo Wb 540))], [.ref (lo (gN Wb 1000 (12 + 1) 67) 1000)], Wm Wd (pA Ab mZ) Pd)
  rw [← ld]
  refine p_ast (ls' := [(2, .ref (lo Wd 1000)), (1, .ref (lo Wb 0)), (0, .ref (lo Wb 540))]) (cc3 cL_15) (by decide) rfl ?_
  refine i_push (n := 0) (cc3 cL_16) (by decide) ?_
  refine p_ist (ls' := [(3, .int (iz 0)), (2, .ref (lo Wd 1000)), (1, .ref (lo Wb 0)), (0, .ref (lo Wb 540))]) (cc3 cL_17) (by decide) rfl ?_
  refine p_lc (ls' := LwS (lo Wb 540) (lo Wb 0) (lo Wd 1000) 0) cL_18 rfl rfl ?_
  have ki : ∀ c, c < 1000 → gK Wd c = gK Wb c ∧ gL Wd c = gL Wb c ∧ lo Wd c = lo Wb c := i5
  have hrel : Rel Wd Pd Ab mZ := rel_0 hr h3 hi ⟨gN_K_e, gN_L_e⟩ (fun c q1 q2 => by rw [gN_K_n (by omega)]; exact kz c (Or.inl q2)) (fun c q => zA c (Or.inl q)) (fun c q => zP c (Or.inl q)) hs
  have hst : Stat Wd Pd := ⟨hTd, fun c hc => by rw [(ki c (by omega)).1, (ki c (by omega)).2.1, i8 c (by omega)]; exact hTb.2.1 c hc, fun j hj => by rw [i8 _ (by omega)]; exact hTb.2.2 j hj⟩
  have hgl : GL Wd := by
    have z : ∀ j, gzr Wd j = gzr Wb j := fun j => by unfold gzr; rw [i6]
    obtain ⟨g1, g2, g3, g4⟩ := hGb
    refine ⟨fun j hj => ?_, by rw [z, (ki 530 (by decide)).2.2]; exact g2, by rw [(ki 530 (by decide)).1]; exact g3, by rw [(ki 530 (by decide)).2.1]; exact g4⟩
    have a := ki (500 + 2 * j) (by omega)
    have b := ki (501 + 2 * j) (by omega)
    rw [z, a.2.2, a.1, b.1, b.2.1]
    exact g1 j hj
  have hsta : Sta Wd Pd (pA Ab mZ) := by
    refine ⟨hWd, rg_pA hRb rg_mZ, hst, hgl, ?_⟩
    show Rel Wd Pd (pA Ab mZ) (mo (pA Ab mZ))
    rw [mo_pA]
    exact hrel.cong (fun c hc => pA_l hc)
  have e540 : pA Ab mZ 540 = A0 540 := by
    rw [pA_l (by decide), r7 540 (by decide) (by decide) (by decide) (by decide) (by decide), h3 540 (by decide) (by decide), ka_n (by omega)]
  have hk : gK Wd 540 = 40 ∧ gL Wd 540 = L := by
    rw [(ki 540 (by decide)).1, (ki 540 (by decide)).2.1, (kb 540 (by decide) (Or.inr (by decide))).1, (kb 540 (by decide) (Or.inr (by decide))).2.1, gN_K_n (by decide), gN_L_n (by decide)]
    exact k540
  have us := ku_s (W := gN W0 0 (11 + 1) 16)
  have ua : gsz (gN W0 0 (11 + 1) 16) = gsz W0 + 1 ∧ gsl (gN W0 0 (11 + 1) 16) = gsl W0 + 16 := ⟨rfl, rfl⟩
  have hlw : LwI (Wm Wd (pA Ab mZ) Pd) (lo Wb 540) (lo Wb 0) (lo Wd 1000) L (A0 540) (gsz W0 + 100) (gsl W0 + 300000) := ⟨Wd, Pd, pA Ab mZ, rfl, hsta, ⟨(ki 540 (by decide)).2.2, (ki 0 (by decide)).2.2, rfl⟩, hk, e540, by omega, by omega⟩
  refine wpE_mono (fun _ _ _ _ _ q => q) (fun r σ q => ?_) (law_run (hR 540) hL hlw)
  exact ⟨q.1, _, _, q.2.mono (by omega) (by omega)⟩
