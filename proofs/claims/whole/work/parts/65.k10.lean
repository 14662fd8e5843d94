/-- the places without a period folded in -/
def ykH (A : Nat → Int → Int) (k : Nat) : Int := A k 7 / 2
def yk0 (A : Nat → Int → Int) (k s : Nat) : Int := k_cen A s 0 (ykH A k) 0
def ykX (A : Nat → Int → Int) (k s : Nat) : Int := if A k 9 = 0 then yk0 A k s + A k 7 else k_cen A s (yk0 A k s + A k 7) (A k 6 / 2) (A k 5)
def ykf (A : Nat → Int → Int) (k s : Nat) (p : Nat) : Int := ykX A k s + sm (fun i => ykw A k i) p
def yku (A : Nat → Int → Int) (k s : Nat) : Int := k_cen A s (ykf A k s ((A k 4).toNat - 1) + A k 6) (ykH A k) 0
theorem cen_b {W : gW} {P : Nat → Int → Nat} {A : Nat → Int → Int} {a : Nat} {x y s : Int} (h : OSt W P A a) : x ≤ k_cen A a x y s ∧ k_cen A a x y s ≤ x + 400 := by
  obtain ⟨-, -, ⟨-, b2, -⟩, -⟩ := h
  have m1 := Int.emod_nonneg (A (a + 3) s - y - x) (show A a 1 ≠ 0 by omega)
  have m2 := Int.emod_lt_of_pos (A (a + 3) s - y - x) (show 0 < A a 1 by omega)
  unfold k_cen
  split <;> omega
theorem ykf_b {W : gW} {P : Nat → Int → Nat} {A : Nat → Int → Int} (h : LyC W P A) {p : Nat} (hp : p ≤ 24) : 0 ≤ yk0 A (P 8 5 - 1) (P 8 7 - 1) ∧ yk0 A (P 8 5 - 1) (P 8 7 - 1) ≤ 400 ∧ 0 ≤ ykX A (P 8 5 - 1) (P 8 7 - 1) ∧ ykX A (P 8 5 - 1) (P 8 7 - 1) ≤ 3200 ∧ ykX A (P 8 5 - 1) (P 8 7 - 1) ≤ ykf A (P 8 5 - 1) (P 8 7 - 1) p ∧ ykf A (P 8 5 - 1) (P 8 7 - 1) p ≤ 3200 + p * 300 := by
  obtain ⟨-, hk, -, hs, -⟩ := h
  have h7 := hk.2.2.2.2.2.2.2.1
  have c1 := cen_b (x := 0) (y := ykH A (P 8 5 - 1)) (s := 0) hs
  have c2 := cen_b (x := yk0 A (P 8 5 - 1) (P 8 7 - 1) + A (P 8 5 - 1) 7) (y := A (P 8 5 - 1) 6 / 2) (s := A (P 8 5 - 1) 5) hs
  have h1 : 0 ≤ sm (fun i => ykw A (P 8 5 - 1) i) p := sm_nn (fun i _ => (ykw_b hk).1)
  have h2 : sm (fun i => ykw A (P 8 5 - 1) i) p ≤ p * 300 := sm_le (fun i _ => (ykw_b hk).2)
  have e0 : yk0 A (P 8 5 - 1) (P 8 7 - 1) = k_cen A (P 8 7 - 1) 0 (ykH A (P 8 5 - 1)) 0 := rfl
  have hX : 0 ≤ ykX A (P 8 5 - 1) (P 8 7 - 1) ∧ ykX A (P 8 5 - 1) (P 8 7 - 1) ≤ 3200 := by unfold ykX; split <;> omega
  unfold ykf
  omega
theorem OKi.c {W : gW} {P : Nat → Int → Nat} {A A' : Nat → Int → Int} {k : Nat} (h : OKi W P A k) (e : A' k = A k) : OKi W P A' k := by unfold OKi at h ⊢; rw [e]; exact h
theorem OBt.c {W : gW} {P : Nat → Int → Nat} {A A' : Nat → Int → Int} {b : Nat} (h : OBt W P A b) (e : A' b = A b) : OBt W P A' b := by unfold OBt at h ⊢; rw [e]; exact h
theorem OSt.c {W : gW} {P : Nat → Int → Nat} {A A' : Nat → Int → Int} {a : Nat} (h : OSt W P A a) (e : A' a = A a) (e3 : A' (a + 3) = A (a + 3)) : OSt W P A' a := by unfold OSt at h ⊢; rw [e, e3]; exact h
theorem LyC.c {W : gW} {P : Nat → Int → Nat} {A A' : Nat → Int → Int} (h : LyC W P A) (e : ∀ c, 29 ≤ c → A' c = A c) : LyC W P A' := ⟨h.1, h.2.1.c (e _ h.2.2.2.2.1), h.2.2.1.c (e _ h.2.2.2.2.2.1), h.2.2.2.1.c (e _ h.2.2.2.2.2.2) (e _ (by have := h.2.2.2.2.2.2; omega)), h.2.2.2.2⟩
theorem cen_c {A A' : Nat → Int → Int} {a : Nat} {x y s : Int} (e : A' a = A a) (e3 : A' (a + 3) = A (a + 3)) : k_cen A' a x y s = k_cen A a x y s := by unfold k_cen; rw [e, e3]
theorem ykw_c {A A' : Nat → Int → Int} {k : Nat} {p : Int} (e : A' k = A k) : ykw A' k p = ykw A k p := by unfold ykw; rw [e]
theorem V70_0 {d : Nat} (hd : 2 ≤ d) {Q : Option Value → xM → Prop} {W : gW} (hW : HW W) {A : Nat → Int → Int} {P : Nat → Int → Nat} (hR : RG A) (hT : Stat W P) (hG : GL W) (h : (¬ P 8 5 = 0) ∧ (gK W (P 8 5 - 1) = 3) ∧ (¬ P 8 7 = 0) ∧ (OSt W P A (P 8 7 - 1)) ∧ (0 ≤ (0 : Int) ∧ (0 : Int) ≤ 1000000) ∧ (0 ≤ ((A (P 8 5 - 1) 7).tdiv 2) ∧ ((A (P 8 5 - 1) 7).tdiv 2) ≤ 1000000) ∧ (gK W (P 8 7 - 1) = 6) ∧ (Rg ((k_cen A (P 8 7 - 1) 0 ((A (P 8 5 - 1) 7).tdiv 2) 0) + ((UA A 8 2 (k_cen A (P 8 7 - 1) 0 ((A (P 8 5 - 1) 7).tdiv 2) 0)) (P 8 5 - 1) 7))) ∧ (((((UA A 8 2 (k_cen A (P 8 7 - 1) 0 ((A (P 8 5 - 1) 7).tdiv 2) 0)) (P 8 5 - 1) 9) = 0) → wpE (xT 70) (xev xT d) Q (77, [(0, .ref (lo W 8)), (1, .int (iz ((A (P 8 5 - 1) 7).tdiv 2))), (2, .int (iz ((k_cen A (P 8 7 - 1) 0 ((A (P 8 5 - 1) 7).tdiv 2) 0) + ((UA A 8 2 (k_cen A (P 8 7 - 1) 0 ((A (P 8 5 - 1) 7).tdiv 2) 0)) (P 8 5 - 1) 7)))), (3, .int (iz ((k_cen A (P 8 7 - 1) 0 ((A (P 8 5 - 1) 7).tdiv 2) 0) + ((UA A 8 2 (k_cen A (P 8 7 - 1) 0 ((A (P 8 5 - 1) 7).tdiv 2) 0)) (P 8 5 - 1) 7)))), (4, .int (iz 0))], [], Wm W (UA A 8 2 (k_cen A (P 8 7 - 1) 0 ((A (P 8 5 - 1) 7).tdiv 2) 0)) P)) ∧ (¬ (((UA A 8 2 (k_cen A (P 8 7 - 1) 0 ((A (P 8 5 - 1) 7).tdiv 2) 0)) (P 8 5 - 1) 9) = 0) → (OSt W P (UA A 8 2 (k_cen A (P 8 7 - 1) 0 ((A (P 8 5 - 1) 7).tdiv 2) 0)) (P 8 7 - 1)) ∧ (0 ≤ ((k_cen A (P 8 7 - 1) 0 ((A (P 8 5 - 1) 7).tdiv 2) 0) + ((UA A 8 2 (k_cen A (P 8 7 - 1) 0 ((A (P 8 5 - 1) 7).tdiv 2) 0)) (P 8 5 - 1) 7)) ∧ ((k_cen A (P 8 7 - 1) 0 ((A (P 8 5 - 1) 7).tdiv 2) 0) + ((UA A 8 2 (k_cen A (P 8 7 - 1) 0 ((A (P 8 5 - 1) 7).tdiv 2) 0)) (P 8 5 - 1) 7)) ≤ 1000000) ∧ (0 ≤ (((UA A 8 2 (k_cen A (P 8 7 - 1) 0 ((A (P 8 5 - 1) 7).tdiv 2) 0)) (P 8 5 - 1) 6).tdiv 2) ∧ (((UA A 8 2 (k_cen A (P 8 7 - 1) 0 ((A (P 8 5 - 1) 7).tdiv 2) 0)) (P 8 5 - 1) 6).tdiv 2) ≤ 1000000) ∧ wpE (xT 70) (xev xT d) Q (77, [(0, .ref (lo W 8)), (1, .int (iz ((A (P 8 5 - 1) 7).tdiv 2))), (2, .int (iz (k_cen (UA A 8 2 (k_cen A (P 8 7 - 1) 0 ((A (P 8 5 - 1) 7).tdiv 2) 0)) (P 8 7 - 1) ((k_cen A (P 8 7 - 1) 0 ((A (P 8 5 - 1) 7).tdiv 2) 0) + ((UA A 8 2 (k_cen A (P 8 7 - 1) 0 ((A (P 8 5 - 1) 7).tdiv 2) 0)) (P 8 5 - 1) 7)) (((UA A 8 2 (k_cen A (P 8 7 - 1) 0 ((A (P 8 5 - 1) 7).tdiv 2) 0)) (P 8 5 - 1) 6).tdiv 2) ((UA A 8 2 (k_cen A (P 8 7 - 1) 0 ((A (P 8 5 - 1) 7).tdiv 2) 0)) (P 8 5 - 1) 5)))), (3, .int (iz (k_cen (UA A 8 2 (k_cen A (P 8 7 - 1) 0 ((A (P 8 5 - 1) 7).tdiv 2) 0)) (P 8 7 - 1) ((k_cen A (P 8 7 - 1) 0 ((A (P 8 5 - 1) 7).tdiv 2) 0) + ((UA A 8 2 (k_cen A (P 8 7 - 1) 0 ((A (P 8 5 - 1) 7).tdiv 2) 0)) (P 8 5 - 1) 7)) (((UA A 8 2 (k_cen A (P 8 7 - 1) 0 ((A (P 8 5 - 1) 7).tdiv 2) 0)) (P 8 5 - 1) 6).tdiv 2) ((UA A 8 2 (k_cen A (P 8 7 - 1) 0 ((A (P 8 5 - 1) 7).tdiv 2) 0)) (P 8 5 - 1) 5)))), (4, .int (iz 0))], [], Wm W (UA A 8 2 (k_cen A (P 8 7 - 1) 0 ((A (P 8 5 - 1) 7).tdiv 2) 0)) P)))) : wpE (xT 70) (xev xT d) Q (0, [(0, .ref (lo W 8))], [], Wm W A P) := by
  refine p_ald (cc3 c70_0) rfl ?_
  obtain ⟨g1, h⟩ := h
  refine w_getp0 hW hT.1 (cc3 c70_1) (st_k hT 8 4 (by decide)) (ji := 5) rfl g1 ?_
  obtain ⟨g2, h⟩ := h
  refine w_geti hW (v := A (P 8 5 - 1) 7) (cc3 c70_4) g2 (ji := 7) rfl rfl ?_
  refine i_push (n := 2) (cc3 c70_7) zl_2 ?_
  refine i_div (cc3 c70_8) (hR (P 8 5 - 1) 7) (by decide) ?_
  refine p_ist (ls' := [(1, .int (iz ((A (P 8 5 - 1) 7).tdiv 2))), (0, .ref (lo W 8))]) (cc3 c70_9) (by decide) rfl ?_
  refine p_ald (cc3 c70_10) rfl ?_
  refine p_ald (cc3 c70_11) rfl ?_
  obtain ⟨g3, h⟩ := h
  refine w_getp0 hW hT.1 (cc3 c70_12) (st_k hT 8 4 (by decide)) (ji := 7) rfl g3 ?_
  refine i_push (n := 0) (cc3 c70_15) zl_0 ?_
  refine p_ild (cc3 c70_16) rfl ?_
  refine i_push (n := 0) (cc3 c70_17) zl_0 ?_
  obtain ⟨g4, h⟩ := h
  obtain ⟨g5, h⟩ := h
  obtain ⟨g6, h⟩ := h
  obtain ⟨g7, h⟩ := h
  refine p_callV (cc3 c70_18) (Nat.le_of_ble_eq_true rfl) rfl rfl (Nat.le_of_ble_eq_true rfl) (wk_kd hW (by decide) g7) (S71 (Nat.le_trans (by decide) hd) hW hR hT hG ⟨(by decide : Rg (0 : Int)), (rg_tdiv (hR (P 8 5 - 1) 7) (by decide : 0 < (2 : Int) ∧ (2 : Int) ≤ 2147483647).1), (by decide : Rg (0 : Int))⟩ ⟨g4, g5, g6⟩) ?_
  refine id (α := Rg (k_cen A (P 8 7 - 1) 0 ((A (P 8 5 - 1) 7).tdiv 2) 0) → _) (fun _ => ?_) (rg_cen ⟨g4, g5, g6⟩); refine w_puti hW (cc3 c70_21) (st_k hT 8 4 (by decide)) (ji := 2) rfl ?_
  refine p_ald (cc3 c70_24) rfl ?_
  refine w_geti hW (v := k_cen A (P 8 7 - 1) 0 ((A (P 8 5 - 1) 7).tdiv 2) 0) (cc3 c70_25) (st_k hT 8 4 (by decide)) (ji := 2) rfl (by first | rfl | exact UA_eq | exact UA_j (by decide) | exact UA_c (by decide)) ?_
  refine p_ald (cc3 c70_28) rfl ?_
  refine w_getp0 hW hT.1 (cc3 c70_29) (st_k hT 8 4 (by decide)) (ji := 5) rfl g1 ?_
  refine w_geti hW (v := (UA A 8 2 (k_cen A (P 8 7 - 1) 0 ((A (P 8 5 - 1) 7).tdiv 2) 0)) (P 8 5 - 1) 7) (cc3 c70_32) g2 (ji := 7) rfl (by first | rfl | exact UA_eq | exact UA_j (by decide) | exact UA_c (by decide)) ?_
  obtain ⟨g8, h⟩ := h
  refine (fun _ : Rg ((k_cen A (P 8 7 - 1) 0 ((A (P 8 5 - 1) 7).tdiv 2) 0) + ((UA A 8 2 (k_cen A (P 8 7 - 1) 0 ((A (P 8 5 - 1) 7).tdiv 2) 0)) (P 8 5 - 1) 7)) => i_add (cc3 c70_35) ?_) g8
  refine p_ist (ls' := [(2, .int (iz ((k_cen A (P 8 7 - 1) 0 ((A (P 8 5 - 1) 7).tdiv 2) 0) + ((UA A 8 2 (k_cen A (P 8 7 - 1) 0 ((A (P 8 5 - 1) 7).tdiv 2) 0)) (P 8 5 - 1) 7)))), (1, .int (iz ((A (P 8 5 - 1) 7).tdiv 2))), (0, .ref (lo W 8))]) (cc3 c70_36) (by decide) rfl ?_
  refine p_ald (cc3 c70_37) rfl ?_
  refine w_getp0 hW hT.1 (cc3 c70_38) (st_k hT 8 4 (by decide)) (ji := 5) rfl g1 ?_
  refine w_geti hW (v := (UA A 8 2 (k_cen A (P 8 7 - 1) 0 ((A (P 8 5 - 1) 7).tdiv 2) 0)) (P 8 5 - 1) 9) (cc3 c70_41) g2 (ji := 9) rfl (by first | rfl | exact UA_eq | exact UA_j (by decide) | exact UA_c (by decide)) ?_
  refine i_if (c' := ((UA A 8 2 (k_cen A (P 8 7 - 1) 0 ((A (P 8 5 - 1) 7).tdiv 2) 0)) (P 8 5 - 1) 9) = 0) (cc3 c70_44) (c_eq0 ((rg_UA hR (rg_cen ⟨g4, g5, g6⟩)) (P 8 5 - 1) 9)) (fun c => ?_) (fun c => ?_)
  · have h := h.1 c
    refine p_lc (ls' := [(0, .ref (lo W 8)), (1, .int (iz ((A (P 8 5 - 1) 7).tdiv 2))), (2, .int (iz ((k_cen A (P 8 7 - 1) 0 ((A (P 8 5 - 1) 7).tdiv 2) 0) + ((UA A 8 2 (k_cen A (P 8 7 - 1) 0 ((A (P 8 5 - 1) 7).tdiv 2) 0)) (P 8 5 - 1) 7))))]) c70_72 rfl rfl ?_
    refine p_ild (cct c70_72 rfl) rfl ?_
    refine p_ist (ls' := [(3, .int (iz ((k_cen A (P 8 7 - 1) 0 ((A (P 8 5 - 1) 7).tdiv 2) 0) + ((UA A 8 2 (k_cen A (P 8 7 - 1) 0 ((A (P 8 5 - 1) 7).tdiv 2) 0)) (P 8 5 - 1) 7)))), (0, .ref (lo W 8)), (1, .int (iz ((A (P 8 5 - 1) 7).tdiv 2))), (2, .int (iz ((k_cen A (P 8 7 - 1) 0 ((A (P 8 5 - 1) 7).tdiv 2) 0) + ((UA A 8 2 (k_cen A (P 8 7 - 1) 0 ((A (P 8 5 - 1) 7).tdiv 2) 0)) (P 8 5 - 1) 7))))]) (cc3 c70_73) (by decide) rfl ?_
    refine i_push (n := 0) (cc3 c70_74) zl_0 ?_
    refine p_ist (ls' := [(4, .int (iz 0)), (3, .int (iz ((k_cen A (P 8 7 - 1) 0 ((A (P 8 5 - 1) 7).tdiv 2) 0) + ((UA A 8 2 (k_cen A (P 8 7 - 1) 0 ((A (P 8 5 - 1) 7).tdiv 2) 0)) (P 8 5 - 1) 7)))), (0, .ref (lo W 8)), (1, .int (iz ((A (P 8 5 - 1) 7).tdiv 2))), (2, .int (iz ((k_cen A (P 8 7 - 1) 0 ((A (P 8 5 - 1) 7).tdiv 2) 0) + ((UA A 8 2 (k_cen A (P 8 7 - 1) 0 ((A (P 8 5 - 1) 7).tdiv 2) 0)) (P 8 5 - 1) 7))))]) (cc3 c70_75) (by decide) rfl ?_
    exact p_lc (ls' := [(0, .ref (lo W 8)), (1, .int (iz ((A (P 8 5 - 1) 7).tdiv 2))), (2, .int (iz ((k_cen A (P 8 7 - 1) 0 ((A (P 8 5 - 1) 7).tdiv 2) 0) + ((UA A 8 2 (k_cen A (P 8 7 - 1) 0 ((A (P 8 5 - 1) 7).tdiv 2) 0)) (P 8 5 - 1) 7)))), (3, .int (iz ((k_cen A (P 8 7 - 1) 0 ((A (P 8 5 - 1) 7).tdiv 2) 0) + ((UA A 8 2 (k_cen A (P 8 7 - 1) 0 ((A (P 8 5 - 1) 7).tdiv 2) 0)) (P 8 5 - 1) 7)))), (4, .int (iz 0))]) c70_77 rfl rfl h
  · have h := h.2 c
    refine p_ald (cc3 c70_47) rfl ?_
    refine w_getp0 hW hT.1 (cc3 c70_48) (st_k hT 8 4 (by decide)) (ji := 7) rfl g3 ?_
    refine p_ild (cc3 c70_51) rfl ?_
    refine p_ald (cc3 c70_52) rfl ?_
    refine w_getp0 hW hT.1 (cc3 c70_53) (st_k hT 8 4 (by decide)) (ji := 5) rfl g1 ?_
    refine w_geti hW (v := (UA A 8 2 (k_cen A (P 8 7 - 1) 0 ((A (P 8 5 - 1) 7).tdiv 2) 0)) (P 8 5 - 1) 6) (cc3 c70_56) g2 (ji := 6) rfl (by first | rfl | exact UA_eq | exact UA_j (by decide) | exact UA_c (by decide)) ?_
    refine i_push (n := 2) (cc3 c70_59) zl_2 ?_
    refine i_div (cc3 c70_60) ((rg_UA hR (rg_cen ⟨g4, g5, g6⟩)) (P 8 5 - 1) 6) (by decide) ?_
    refine p_ald (cc3 c70_61) rfl ?_
    refine w_getp0 hW hT.1 (cc3 c70_62) (st_k hT 8 4 (by decide)) (ji := 5) rfl g1 ?_
    refine w_geti hW (v := (UA A 8 2 (k_cen A (P 8 7 - 1) 0 ((A (P 8 5 - 1) 7).tdiv 2) 0)) (P 8 5 - 1) 5) (cc3 c70_65) g2 (ji := 5) rfl (by first | rfl | exact UA_eq | exact UA_j (by decide) | exact UA_c (by decide)) ?_
    obtain ⟨g9, h⟩ := h
    obtain ⟨g10, h⟩ := h
    obtain ⟨g11, h⟩ := h
    refine p_callV (cc3 c70_68) (Nat.le_of_ble_eq_true rfl) rfl rfl (Nat.le_of_ble_eq_true rfl) (wk_kd hW (by decide) g7) (S71 (Nat.le_trans (by decide) hd) hW (rg_UA hR (rg_cen ⟨g4, g5, g6⟩)) hT hG ⟨g8, (rg_tdiv ((rg_UA hR (rg_cen ⟨g4, g5, g6⟩)) (P 8 5 - 1) 6) (by decide : 0 < (2 : Int) ∧ (2 : Int) ≤ 2147483647).1), ((rg_UA hR (rg_cen ⟨g4, g5, g6⟩)) (P 8 5 - 1) 5)⟩ ⟨g9, g10, g11⟩) ?_
    refine p_ist (ls' := [(2, .int (iz (k_cen (UA A 8 2 (k_cen A (P 8 7 - 1) 0 ((A (P 8 5 - 1) 7).tdiv 2) 0)) (P 8 7 - 1) ((k_cen A (P 8 7 - 1) 0 ((A (P 8 5 - 1) 7).tdiv 2) 0) + ((UA A 8 2 (k_cen A (P 8 7 - 1) 0 ((A (P 8 5 - 1) 7).tdiv 2) 0)) (P 8 5 - 1) 7)) (((UA A 8 2 (k_cen A (P 8 7 - 1) 0 ((A (P 8 5 - 1) 7).tdiv 2) 0)) (P 8 5 - 1) 6).tdiv 2) ((UA A 8 2 (k_cen A (P 8 7 - 1) 0 ((A (P 8 5 - 1) 7).tdiv 2) 0)) (P 8 5 - 1) 5)))), (1, .int (iz ((A (P 8 5 - 1) 7).tdiv 2))), (0, .ref (lo W 8))]) (cc3 c70_71) (by decide) rfl ?_
    refine p_lc (ls' := [(0, .ref (lo W 8)), (1, .int (iz ((A (P 8 5 - 1) 7).tdiv 2))), (2, .int (iz (k_cen (UA A 8 2 (k_cen A (P 8 7 - 1) 0 ((A (P 8 5 - 1) 7).tdiv 2) 0)) (P 8 7 - 1) ((k_cen A (P 8 7 - 1) 0 ((A (P 8 5 - 1) 7).tdiv 2) 0) + ((UA A 8 2 (k_cen A (P 8 7 - 1) 0 ((A (P 8 5 - 1) 7).tdiv 2) 0)) (P 8 5 - 1) 7)) (((UA A 8 2 (k_cen A (P 8 7 - 1) 0 ((A (P 8 5 - 1) 7).tdiv 2) 0)) (P 8 5 - 1) 6).tdiv 2) ((UA A 8 2 (k_cen A (P 8 7 - 1) 0 ((A (P 8 5 - 1) 7).tdiv 2) 0)) (P 8 5 - 1) 5))))]) c70_72 rfl rfl ?_
    refine p_ild (cct c70_72 rfl) rfl ?_
    refine p_ist (ls' := [(3, .int (iz (k_cen (UA A 8 2 (k_cen A (P 8 7 - 1) 0 ((A (P 8 5 - 1) 7).tdiv 2) 0)) (P 8 7 - 1) ((k_cen A (P 8 7 - 1) 0 ((A (P 8 5 - 1) 7).tdiv 2) 0) + ((UA A 8 2 (k_cen A (P 8 7 - 1) 0 ((A (P 8 5 - 1) 7).tdiv 2) 0)) (P 8 5 - 1) 7)) (((UA A 8 2 (k_cen A (P 8 7 - 1) 0 ((A (P 8 5 - 1) 7).tdiv 2) 0)) (P 8 5 - 1) 6).tdiv 2) ((UA A 8 2 (k_cen A (P 8 7 - 1) 0 ((A (P 8 5 - 1) 7).tdiv 2) 0)) (P 8 5 - 1) 5)))), (0, .ref (lo W 8)), (1, .int (iz ((A (P 8 5 - 1) 7).tdiv 2))), (2, .int (iz (k_cen (UA A 8 2 (k_cen A (P 8 7 - 1) 0 ((A (P 8 5 - 1) 7).tdiv 2) 0)) (P 8 7 - 1) ((k_cen A (P 8 7 - 1) 0 ((A (P 8 5 - 1) 7).tdiv 2) 0) + ((UA A 8 2 (k_cen A (P 8 7 - 1) 0 ((A (P 8 5 - 1) 7).tdiv 2) 0)) (P 8 5 - 1) 7)) (((UA A 8 2 (k_cen A (P 8 7 - 1) 0 ((A (P 8 5 - 1) 7).tdiv 2) 0)) (P 8 5 - 1) 6).tdiv 2) ((UA A 8 2 (k_cen A (P 8 7 - 1) 0 ((A (P 8 5 - 1) 7).tdiv 2) 0)) (P 8 5 - 1) 5))))]) (cc3 c70_73) (by decide) rfl ?_
    refine i_push (n := 0) (cc3 c70_74) zl_0 ?_
    refine p_ist (ls' := [(4, .int (iz 0)), (3, .int (iz (k_cen (UA A 8 2 (k_cen A (P 8 7 - 1) 0 ((A (P 8 5 - 1) 7).tdiv 2) 0)) (P 8 7 - 1) ((k_cen A (P 8 7 - 1) 0 ((A (P 8 5 - 1) 7).tdiv 2) 0) + ((UA A 8 2 (k_cen A (P 8 7 - 1) 0 ((A (P 8 5 - 1) 7).tdiv 2) 0)) (P 8 5 - 1) 7)) (((UA A 8 2 (k_cen A (P 8 7 - 1) 0 ((A (P 8 5 - 1) 7).tdiv 2) 0)) (P 8 5 - 1) 6).tdiv 2) ((UA A 8 2 (k_cen A (P 8 7 - 1) 0 ((A (P 8 5 - 1) 7).tdiv 2) 0)) (P 8 5 - 1) 5)))), (0, .ref (lo W 8)), (1, .int (iz ((A (P 8 5 - 1) 7).tdiv 2))), (2, .int (iz (k_cen (UA A 8 2 (k_cen A (P 8 7 - 1) 0 ((A (P 8 5 - 1) 7).tdiv 2) 0)) (P 8 7 - 1) ((k_cen A (P 8 7 - 1) 0 ((A (P 8 5 - 1) 7).tdiv 2) 0) + ((UA A 8 2 (k_cen A (P 8 7 - 1) 0 ((A (P 8 5 - 1) 7).tdiv 2) 0)) (P 8 5 - 1) 7)) (((UA A 8 2 (k_cen A (P 8 7 - 1) 0 ((A (P 8 5 - 1) 7).tdiv 2) 0)) (P 8 5 - 1) 6).tdiv 2) ((UA A 8 2 (k_cen A (P 8 7 - 1) 0 ((A (P 8 5 - 1) 7).tdiv 2) 0)) (P 8 5 - 1) 5))))]) (cc3 c70_75) (by decide) rfl ?_
    exact p_lc (ls' := [(0, .ref (lo W 8)), (1, .int (iz ((A (P 8 5 - 1) 7).tdiv 2))), (2, .int (iz (k_cen (UA A 8 2 (k_cen A (P 8 7 - 1) 0 ((A (P 8 5 - 1) 7).tdiv 2) 0)) (P 8 7 - 1) ((k_cen A (P 8 7 - 1) 0 ((A (P 8 5 - 1) 7).tdiv 2) 0) + ((UA A 8 2 (k_cen A (P 8 7 - 1) 0 ((A (P 8 5 - 1) 7).tdiv 2) 0)) (P 8 5 - 1) 7)) (((UA A 8 2 (k_cen A (P 8 7 - 1) 0 ((A (P 8 5 - 1) 7).tdiv 2) 0)) (P 8 5 - 1) 6).tdiv 2) ((UA A 8 2 (k_cen A (P 8 7 - 1) 0 ((A (P 8 5 - 1) 7).tdiv 2) 0)) (P 8 5 - 1) 5)))), (3, .int (iz (k_cen (UA A 8 2 (k_cen A (P 8 7 - 1) 0 ((A (P 8 5 - 1) 7).tdiv 2) 0)) (P 8 7 - 1) ((k_cen A (P 8 7 - 1) 0 ((A (P 8 5 - 1) 7).tdiv 2) 0) + ((UA A 8 2 (k_cen A (P 8 7 - 1) 0 ((A (P 8 5 - 1) 7).tdiv 2) 0)) (P 8 5 - 1) 7)) (((UA A 8 2 (k_cen A (P 8 7 - 1) 0 ((A (P 8 5 - 1) 7).tdiv 2) 0)) (P 8 5 - 1) 6).tdiv 2) ((UA A 8 2 (k_cen A (P 8 7 - 1) 0 ((A (P 8 5 - 1) 7).tdiv 2) 0)) (P 8 5 - 1) 5)))), (4, .int (iz 0))]) c70_77 rfl rfl h
theorem V70_77 {d : Nat} (hd : 2 ≤ d) {Q : Option Value → xM → Prop} {W : gW} (hW : HW W) {A : Nat → Int → Int} {P : Nat → Int → Nat} (hR : RG A) (hT : Stat W P) (hG : GL W) {x1 x2 x3 x4 : Int} (rr : Rg x1 ∧ Rg x2 ∧ Rg x3 ∧ Rg x4) (h : (¬ P 8 5 = 0) ∧ (gK W (P 8 5 - 1) = 3) ∧ ((((A (P 8 5 - 1) 4) ≤ x4) → (¬ P 8 7 = 0) ∧ (Rg (x3 + (A (P 8 5 - 1) 6))) ∧ (OSt W P A (P 8 7 - 1)) ∧ (0 ≤ (x3 + (A (P 8 5 - 1) 6)) ∧ (x3 + (A (P 8 5 - 1) 6)) ≤ 1000000) ∧ (0 ≤ x1 ∧ x1 ≤ 1000000) ∧ (gK W (P 8 7 - 1) = 6) ∧ Q none (Wm W (UA A 8 3 (k_cen A (P 8 7 - 1) (x3 + (A (P 8 5 - 1) 6)) x1 0)) P)) ∧ (¬ ((A (P 8 5 - 1) 4) ≤ x4) → (((24 ≤ x4) → (¬ P 8 7 = 0) ∧ (Rg (x3 + (A (P 8 5 - 1) 6))) ∧ (OSt W P A (P 8 7 - 1)) ∧ (0 ≤ (x3 + (A (P 8 5 - 1) 6)) ∧ (x3 + (A (P 8 5 - 1) 6)) ≤ 1000000) ∧ (0 ≤ x1 ∧ x1 ≤ 1000000) ∧ (gK W (P 8 7 - 1) = 6) ∧ Q none (Wm W (UA A 8 3 (k_cen A (P 8 7 - 1) (x3 + (A (P 8 5 - 1) 6)) x1 0)) P)) ∧ (¬ (24 ≤ x4) → (0 ≤ x4 ∧ x4 < 24) ∧ (LyC W P (UA A 10 x4 x2)) ∧ (Rg (x2 + (ykw (UA A 10 x4 x2) (P 8 5 - 1) x4))) ∧ (Rg (x4 + 1)) ∧ wpE (xT 70) (xev xT d) Q (77, [(0, .ref (lo W 8)), (1, .int (iz x1)), (2, .int (iz (x2 + (ykw (UA A 10 x4 x2) (P 8 5 - 1) x4)))), (3, .int (iz x2)), (4, .int (iz (x4 + 1)))], [], Wm W (UA A 10 x4 x2) P)))))) : wpE (xT 70) (xev xT d) Q (77, [(0, .ref (lo W 8)), (1, .int (iz x1)), (2, .int (iz x2)), (3, .int (iz x3)), (4, .int (iz x4))], [], Wm W A P) := by
  refine p_ild (cct c70_77 rfl) rfl ?_
  refine p_ald (cc3 c70_79) rfl ?_
  obtain ⟨g1, h⟩ := h
  refine w_getp0 hW hT.1 (cc3 c70_80) (st_k hT 8 4 (by decide)) (ji := 5) rfl g1 ?_
  obtain ⟨g2, h⟩ := h
  refine w_geti hW (v := A (P 8 5 - 1) 4) (cc3 c70_83) g2 (ji := 4) rfl rfl ?_
  refine i_icmp (c' := (A (P 8 5 - 1) 4) ≤ x4) (cc3 c70_86) (iz_le (hR (P 8 5 - 1) 4) rr.2.2.2) (fun c => ?_) (fun c => ?_)
  · have h := h.1 c
    refine p_lc (ls' := [(0, .ref (lo W 8)), (1, .int (iz x1)), (3, .int (iz x3))]) c70_121 rfl rfl ?_
    refine p_ald (cct c70_121 rfl) rfl ?_
    refine p_ald (cc3 c70_122) rfl ?_
    obtain ⟨g3, h⟩ := h
    refine w_getp0 hW hT.1 (cc3 c70_123) (st_k hT 8 4 (by decide)) (ji := 7) rfl g3 ?_
    refine p_ild (cc3 c70_126) rfl ?_
    refine p_ald (cc3 c70_127) rfl ?_
    refine w_getp0 hW hT.1 (cc3 c70_128) (st_k hT 8 4 (by decide)) (ji := 5) rfl g1 ?_
    refine w_geti hW (v := A (P 8 5 - 1) 6) (cc3 c70_131) g2 (ji := 6) rfl rfl ?_
    obtain ⟨g4, h⟩ := h
    refine (fun _ : Rg (x3 + (A (P 8 5 - 1) 6)) => i_add (cc3 c70_134) ?_) g4
    refine p_ild (cc3 c70_135) rfl ?_
    refine i_push (n := 0) (cc3 c70_136) zl_0 ?_
    obtain ⟨g5, h⟩ := h
    obtain ⟨g6, h⟩ := h
    obtain ⟨g7, h⟩ := h
    obtain ⟨g8, h⟩ := h
    refine p_callV (cc3 c70_137) (Nat.le_of_ble_eq_true rfl) rfl rfl (Nat.le_of_ble_eq_true rfl) (wk_kd hW (by decide) g8) (S71 (Nat.le_trans (by decide) hd) hW hR hT hG ⟨g4, rr.1, (by decide : Rg (0 : Int))⟩ ⟨g5, g6, g7⟩) ?_
    refine id (α := Rg (k_cen A (P 8 7 - 1) (x3 + (A (P 8 5 - 1) 6)) x1 0) → _) (fun _ => ?_) (rg_cen ⟨g5, g6, g7⟩); refine w_puti hW (cc3 c70_140) (st_k hT 8 4 (by decide)) (ji := 3) rfl ?_
    exact p_rv (cc3 c70_143) h
  · have h := h.2 c
    refine p_ild (cc3 c70_89) rfl ?_
    refine i_push (n := 24) (cc3 c70_91) zl_24 ?_
    refine i_icmp (c' := 24 ≤ x4) (cc3 c70_93) (iz_le (by decide : Rg (24 : Int)) rr.2.2.2) (fun c => ?_) (fun c => ?_)
    · have h := h.1 c
      refine p_lc (ls' := [(0, .ref (lo W 8)), (1, .int (iz x1)), (3, .int (iz x3))]) c70_121 rfl rfl ?_
      refine p_ald (cct c70_121 rfl) rfl ?_
      refine p_ald (cc3 c70_122) rfl ?_
      obtain ⟨g3, h⟩ := h
      refine w_getp0 hW hT.1 (cc3 c70_123) (st_k hT 8 4 (by decide)) (ji := 7) rfl g3 ?_
      refine p_ild (cc3 c70_126) rfl ?_
      refine p_ald (cc3 c70_127) rfl ?_
      refine w_getp0 hW hT.1 (cc3 c70_128) (st_k hT 8 4 (by decide)) (ji := 5) rfl g1 ?_
      refine w_geti hW (v := A (P 8 5 - 1) 6) (cc3 c70_131) g2 (ji := 6) rfl rfl ?_
      obtain ⟨g4, h⟩ := h
      refine (fun _ : Rg (x3 + (A (P 8 5 - 1) 6)) => i_add (cc3 c70_134) ?_) g4
      refine p_ild (cc3 c70_135) rfl ?_
      refine i_push (n := 0) (cc3 c70_136) zl_0 ?_
      obtain ⟨g5, h⟩ := h
      obtain ⟨g6, h⟩ := h
      obtain ⟨g7, h⟩ := h
      obtain ⟨g8, h⟩ := h
      refine p_callV (cc3 c70_137) (Nat.le_of_ble_eq_true rfl) rfl rfl (Nat.le_of_ble_eq_true rfl) (wk_kd hW (by decide) g8) (S71 (Nat.le_trans (by decide) hd) hW hR hT hG ⟨g4, rr.1, (by decide : Rg (0 : Int))⟩ ⟨g5, g6, g7⟩) ?_
      refine id (α := Rg (k_cen A (P 8 7 - 1) (x3 + (A (P 8 5 - 1) 6)) x1 0) → _) (fun _ => ?_) (rg_cen ⟨g5, g6, g7⟩); refine w_puti hW (cc3 c70_140) (st_k hT 8 4 (by decide)) (ji := 3) rfl ?_
      exact p_rv (cc3 c70_143) h
    · have h := h.2 c
      refine p_ald (cc3 c70_96) rfl ?_
      refine w_getp hW hT.1 (b := 10) (cc3 c70_97) (st_k hT 8 4 (by decide)) (ji := 1) rfl (st_p hT 8 1 10 (by decide)) ?_
      refine p_ild (cc3 c70_100) rfl ?_
      refine p_ild (cc3 c70_102) rfl ?_
      obtain ⟨g3, h⟩ := h
      refine id (α := Rg x2 → _) (fun _ => ?_) rr.2.1; refine w_asti hW (cc3 c70_103) (st_k hT 10 20 (by decide)) (st_i hT 10 24 (by decide) g3) rfl ?_
      refine p_ild (cc3 c70_104) rfl ?_
      refine p_ist (ls' := [(3, .int (iz x2)), (0, .ref (lo W 8)), (1, .int (iz x1)), (2, .int (iz x2)), (4, .int (iz x4))]) (cc3 c70_105) (by decide) rfl ?_
      refine p_ild (cc3 c70_106) rfl ?_
      refine p_ald (cc3 c70_107) rfl ?_
      refine p_ild (cc3 c70_108) rfl ?_
      obtain ⟨g4, h⟩ := h
      refine p_callV (cc3 c70_110) (Nat.le_of_ble_eq_true rfl) rfl rfl (Nat.le_of_ble_eq_true rfl) (wk_kd hW (by decide) (st_k hT 8 4 (by decide))) (S73 (Nat.le_trans (by decide) hd) hW (rg_UA hR rr.2.1) hT hG rr.2.2.2 g4) ?_
      obtain ⟨g5, h⟩ := h
      refine (fun _ : Rg (x2 + (ykw (UA A 10 x4 x2) (P 8 5 - 1) x4)) => i_add (cc3 c70_113) ?_) g5
      refine p_ist (ls' := [(2, .int (iz (x2 + (ykw (UA A 10 x4 x2) (P 8 5 - 1) x4)))), (3, .int (iz x2)), (0, .ref (lo W 8)), (1, .int (iz x1)), (4, .int (iz x4))]) (cc3 c70_114) (by decide) rfl ?_
      obtain ⟨g6, h⟩ := h
      refine (fun _ : Rg (x4 + 1) => i_iinc (n := 1) (y := x4 + 1) (ls' := [(4, .int (iz (x4 + 1))), (2, .int (iz (x2 + (ykw (UA A 10 x4 x2) (P 8 5 - 1) x4)))), (3, .int (iz x2)), (0, .ref (lo W 8)), (1, .int (iz x1))]) (cc3 c70_115) (by decide) rfl zl_1 (by first | rfl | omega) rfl ?_) g6
      refine p_goto (cc3 c70_118) ?_
      exact p_lc (ls' := [(0, .ref (lo W 8)), (1, .int (iz x1)), (2, .int (iz (x2 + (ykw (UA A 10 x4 x2) (P 8 5 - 1) x4)))), (3, .int (iz x2)), (4, .int (iz (x4 + 1)))]) c70_77 rfl rfl h

theorem L70 {d : Nat} (hd : 2 ≤ d) {Q : Option Value → xM → Prop} {W : gW} (hW : HW W) {A0 : Nat → Int → Int} {P : Nat → Int → Nat} (hT : Stat W P) (hG : GL W) (hp : LyC W P A0)
    (hQ : ∀ A', RG A' → Fo 8 [10] [2, 3] A0 A' → A' 8 2 = yk0 A0 (P 8 5 - 1) (P 8 7 - 1) → A' 8 3 = yku A0 (P 8 5 - 1) (P 8 7 - 1) → (∀ p : Nat, (p : Int) < A0 (P 8 5 - 1) 4 → A' 10 p = ykf A0 (P 8 5 - 1) (P 8 7 - 1) p) → Q none (Wm W A' P)) :
    ∀ (n p : Nat) (x3 : Int) (A : Nat → Int → Int), (p : Int) + n = A0 (P 8 5 - 1) 4 → RG A → Fo 8 [10] [2] A0 A → A 8 2 = yk0 A0 (P 8 5 - 1) (P 8 7 - 1) → (∀ q : Nat, q < p → A 10 q = ykf A0 (P 8 5 - 1) (P 8 7 - 1) q) → (1 ≤ p → x3 = ykf A0 (P 8 5 - 1) (P 8 7 - 1) (p - 1)) → Rg x3 → wpE (xT 70) (xev xT d) Q (77, [(0, .ref (lo W 8)), (1, .int (iz (ykH A0 (P 8 5 - 1)))), (2, .int (iz (ykf A0 (P 8 5 - 1) (P 8 7 - 1) p))), (3, .int (iz x3)), (4, .int (iz p))], [], Wm W A P) := by
  have hk := hp.2.1
  have hs := hp.2.2.2.1
  have h4 := hk.2.2.2.1
  have h7 := hk.2.2.2.2.2.2.2.1
  have h6 := hk.2.2.2.2.2.2.1
  have hH : 0 ≤ ykH A0 (P 8 5 - 1) ∧ ykH A0 (P 8 5 - 1) ≤ 1200 := by unfold ykH; omega
  intro n
  induction n with
  | zero =>
    intro p x3 A hn hR hF h2 h10 hx r3
    have hc : ∀ c, 29 ≤ c → A c = A0 c := fun c h => hF.1 c (by simp; omega) (by omega)
    have hL := hp.c hc
    have ek := hc _ hp.2.2.2.2.1
    have es := hc _ hp.2.2.2.2.2.2
    have es3 : A (P 8 7 - 1 + 3) = A0 (P 8 7 - 1 + 3) := hc _ (by have := hp.2.2.2.2.2.2; omega)
    have hb := ykf_b hp (p := p) (by omega)
    have hb1 := ykf_b hp (p := p - 1) (by omega)
    have hx' := hx (by omega)
    have eu : yku A0 (P 8 5 - 1) (P 8 7 - 1) = k_cen A0 (P 8 7 - 1) (x3 + A0 (P 8 5 - 1) 6) (ykH A0 (P 8 5 - 1)) 0 := by
      unfold yku
      rw [hx', show (A0 (P 8 5 - 1) 4).toNat - 1 = p - 1 by omega]
    have hcb := cen_b (x := x3 + A0 (P 8 5 - 1) 6) (y := ykH A0 (P 8 5 - 1)) (s := 0) hs
    refine V70_77 hd hW hR hT hG ⟨⟨by omega, by omega⟩, ⟨by omega, by omega⟩, r3, ⟨by omega, by omega⟩⟩ ⟨hp.1.1, hL.2.1.1, fun _ => ?_, fun c => absurd (by rw [ek]; omega) c⟩
    rw [ek, cen_c es es3, ← eu]
    refine ⟨hp.1.2.2, ⟨by omega, by omega⟩, hL.2.2.2.1, by omega, by omega, hs.1.1, hQ _ (rg_UA hR ⟨by omega, by omega⟩) ((hF.mono (by simp) (fun j h => by revert h; simp; omega)).fld (by decide)) (by rw [UA_j (by decide)]; exact h2) UA_eq (fun q hq => by rw [UA_c (by decide)]; exact h10 q (by omega))⟩
  | succ n ih =>
    intro p x3 A hn hR hF h2 h10 hx r3
    have hc : ∀ c, 29 ≤ c → A c = A0 c := fun c h => hF.1 c (by simp; omega) (by omega)
    have ek := hc _ hp.2.2.2.2.1
    have hb := ykf_b hp (p := p) (by omega)
    have hb1 := ykf_b hp (p := p + 1) (by omega)
    have hc' : ∀ c, 29 ≤ c → UA A 10 p (ykf A0 (P 8 5 - 1) (P 8 7 - 1) p) c = A0 c := fun c h => by
      have : UA A 10 p (ykf A0 (P 8 5 - 1) (P 8 7 - 1) p) c = A c := by funext i; exact UA_c (by omega)
      rw [this, hc c h]
    have ew : ykw (UA A 10 p (ykf A0 (P 8 5 - 1) (P 8 7 - 1) p)) (P 8 5 - 1) p = ykw A0 (P 8 5 - 1) p := ykw_c (hc' _ hp.2.2.2.2.1)
    have ef : ykf A0 (P 8 5 - 1) (P 8 7 - 1) p + ykw A0 (P 8 5 - 1) p = ykf A0 (P 8 5 - 1) (P 8 7 - 1) (p + 1) := by
      unfold ykf
      show _ = ykX A0 (P 8 5 - 1) (P 8 7 - 1) + (sm (fun i => ykw A0 (P 8 5 - 1) i) p + ykw A0 (P 8 5 - 1) p)
      omega
    have := ih (p + 1) (ykf A0 (P 8 5 - 1) (P 8 7 - 1) p) (UA A 10 p (ykf A0 (P 8 5 - 1) (P 8 7 - 1) p)) (by omega) (rg_UA hR ⟨by omega, by omega⟩) (hF.row (by decide) (by decide)) (by rw [UA_c (by decide)]; exact h2) (fun q hq => by
      by_cases e : q = p
      · subst e; exact UA_eq
      · rw [UA_j (by omega)]; exact h10 q (by omega)) (fun _ => by rw [Nat.add_sub_cancel]) ⟨by omega, by omega⟩
    refine V70_77 hd hW hR hT hG ⟨⟨by omega, by omega⟩, ⟨by omega, by omega⟩, r3, ⟨by omega, by omega⟩⟩ ⟨hp.1.1, by rw [(hp.c hc).2.1.1], fun c => absurd c (by rw [ek]; omega), fun _ => ⟨fun c => absurd c (by omega), fun _ => ?_⟩⟩
    rw [ew, ef]
    exact ⟨by omega, hp.c hc', ⟨by omega, by omega⟩, ⟨by omega, by omega⟩, this⟩
theorem S70 {d : Nat} (hd : 3 ≤ d) {W : gW} (hW : HW W) {A : Nat → Int → Int} {P : Nat → Int → Nat} (hR : RG A) (hT : Stat W P) (hG : GL W) (hp : (LyC W P A)) : ∃ (A' : Nat → Int → Int), xev xT d 70 [.ref (lo W 8)] (Wm W A P) none (Wm W A' P) ∧ RG A' ∧ (Fo 8 [10] [2, 3] A A' ∧ A' 8 2 = yk0 A (P 8 5 - 1) (P 8 7 - 1) ∧ A' 8 3 = yku A (P 8 5 - 1) (P 8 7 - 1) ∧ ∀ p : Nat, (p : Int) < A (P 8 5 - 1) 4 → A' 10 p = ykf A (P 8 5 - 1) (P 8 7 - 1) p) := by
  refine xev_g (i := 70) (as := [.ref (lo W 8)]) (σ := Wm W A P) (Q := fun r_ σ_ => ∃ (A' : Nat → Int → Int), r_ = none ∧ σ_ = Wm W A' P ∧ RG A' ∧ (Fo 8 [10] [2, 3] A A' ∧ A' 8 2 = yk0 A (P 8 5 - 1) (P 8 7 - 1) ∧ A' 8 3 = yku A (P 8 5 - 1) (P 8 7 - 1) ∧ ∀ p : Nat, (p : Int) < A (P 8 5 - 1) 4 → A' 10 p = ykf A (P 8 5 - 1) (P 8 7 - 1) p)) (D := 2) hd (Nat.le_of_ble_eq_true rfl) (fun r_ σ_ he hq => ?_) (fun d hd => V70_0 hd hW hR hT hG ?_)
  · obtain ⟨A', rfl, rfl, hq⟩ := hq
    exact ⟨A', he, hq⟩

  have hp' := hp
  obtain ⟨⟨n5, n6, n7⟩, hk, hb, hs, hd9⟩ := hp'
  have h7 := hk.2.2.2.2.2.2.2.1
  have h6 := hk.2.2.2.2.2.2.1
  have hy := ykf_b hp (p := 0) (by decide)
  have eH : (A (P 8 5 - 1) 7).tdiv 2 = ykH A (P 8 5 - 1) := tdiv_pos h7.1
  have hH : 0 ≤ ykH A (P 8 5 - 1) ∧ ykH A (P 8 5 - 1) ≤ 1200 := by unfold ykH; omega
  rw [eH]
  have e0 : k_cen A (P 8 7 - 1) 0 (ykH A (P 8 5 - 1)) 0 = yk0 A (P 8 5 - 1) (P 8 7 - 1) := rfl
  rw [e0]
  have u7 : ∀ (c : Nat) (j : Int), 29 ≤ c → UA A 8 2 (yk0 A (P 8 5 - 1) (P 8 7 - 1)) c j = A c j := fun c j h => UA_c (by omega)
  have uc : ∀ c, 29 ≤ c → UA A 8 2 (yk0 A (P 8 5 - 1) (P 8 7 - 1)) c = A c := fun c h => by funext j; exact u7 c j h
  have L := L70 (Q := fun r_ σ_ => ∃ (A' : Nat → Int → Int), r_ = none ∧ σ_ = Wm W A' P ∧ RG A' ∧ (Fo 8 [10] [2, 3] A A' ∧ A' 8 2 = yk0 A (P 8 5 - 1) (P 8 7 - 1) ∧ A' 8 3 = yku A (P 8 5 - 1) (P 8 7 - 1) ∧ ∀ p : Nat, (p : Int) < A (P 8 5 - 1) 4 → A' 10 p = ykf A (P 8 5 - 1) (P 8 7 - 1) p)) hd hW hT hG hp (fun A' h1 h2 h3 h4 h5 => ⟨A', rfl, rfl, h1, h2, h3, h4, h5⟩) (A (P 8 5 - 1) 4).toNat 0
  refine ⟨n5, hk.1, n7, hs, by omega, by omega, hs.1.1, ?_⟩
  rw [u7 _ 7 hd9.1, u7 _ 9 hd9.1, u7 _ 6 hd9.1, u7 _ 5 hd9.1, cen_c (uc _ hd9.2.2) (uc _ (by omega))]
  have eV : (A (P 8 5 - 1) 6).tdiv 2 = A (P 8 5 - 1) 6 / 2 := tdiv_pos (by omega)
  rw [eV]
  have hR' : RG (UA A 8 2 (yk0 A (P 8 5 - 1) (P 8 7 - 1))) := rg_UA hR ⟨by omega, by omega⟩
  have e00 : ykf A (P 8 5 - 1) (P 8 7 - 1) 0 = ykX A (P 8 5 - 1) (P 8 7 - 1) := by unfold ykf; show _ + 0 = _; omega
  have go : ∀ x, x = ykX A (P 8 5 - 1) (P 8 7 - 1) → _ := fun x hx => L x (UA A 8 2 (yk0 A (P 8 5 - 1) (P 8 7 - 1))) (by have := hk.2.2.2.1; omega) hR' (Fo.rf.fld (by decide)) UA_eq (fun q hq => absurd hq (Nat.not_lt_zero q)) (fun q => absurd q (by decide)) (by rw [hx]; exact ⟨by omega, by omega⟩)
  rw [e00] at go
  refine ⟨⟨by omega, by omega⟩, fun c => ?_, fun c => ⟨hs.c (uc _ hd9.2.2) (uc _ (by omega)), by omega, by omega, ?_⟩⟩
  · have e : yk0 A (P 8 5 - 1) (P 8 7 - 1) + A (P 8 5 - 1) 7 = ykX A (P 8 5 - 1) (P 8 7 - 1) := by unfold ykX; rw [if_pos c]
    rw [e]; exact go _ rfl
  · have e : k_cen A (P 8 7 - 1) (yk0 A (P 8 5 - 1) (P 8 7 - 1) + A (P 8 5 - 1) 7) (A (P 8 5 - 1) 6 / 2) (A (P 8 5 - 1) 5) = ykX A (P 8 5 - 1) (P 8 7 - 1) := by unfold ykX; rw [if_neg c]
    rw [e]; exact go _ rfl
