def kqK (f : Int → Int) : Nat → Int
  | 0 => 0
  | j + 1 => kqK f j + 1 + ndK f (kqK f j + 1) + 1
abbrev KO (f : Int → Int) (p : Int) : Prop := 97 ≤ f p ∧ f p ≤ 104 ∧ ¬ ndK f (p + 1) = 0
abbrev kEn (f : Int → Int) (p : Int) : Int := p + 1 + ndK f (p + 1)
abbrev KCo (f : Int → Int) (k : Nat) : Prop := KO f (kqK f k) ∧ f (kEn f (kqK f k)) = 32 ∧ k + 1 < 10
def kFt (f : Int → Int) (n p : Int) : Int := if ¬ KO f p then (if 97 ≤ f p ∧ f p ≤ 104 then p + 1 else p) else if f (kEn f p) = 47 ∨ f (kEn f p) = 59 then (if kEn f p + 1 = n then -1 else kEn f p + 1) else kEn f p
theorem kqK_b {f : Int → Int} : ∀ k : Nat, 0 ≤ kqK f k ∧ kqK f k ≤ 5 * k
  | 0 => by show (0 : Int) ≤ 0 ∧ (0 : Int) ≤ 5 * 0; omega
  | k + 1 => by
    have ih := kqK_b (f := f) k
    have hb := ndK_b (f := f) (p := kqK f k + 1)
    unfold kqK
    omega
abbrev RdE (A' : Nat → Int → Int) (f : Int → Int) (k : Nat) : Prop := ∀ j : Nat, j < k → A' 4 j = f (kqK f j) - 97 ∧ A' 5 j = cvK f (kqK f j + 1)
/-- what read leaves: K is the last STRIPE that is read -/
def RdK (A A' : Nat → Int → Int) (r : Int) : Prop := Fo 3 [4, 5] [2, 3] A A' ∧ ∃ K : Nat, K < 10 ∧ (∀ j, j < K → KCo (k_at A) j) ∧ ¬ KCo (k_at A) K ∧ r = kFt (k_at A) (A 1 1) (kqK (k_at A) K) ∧ (KO (k_at A) (kqK (k_at A) K) ∧ (k_at A (kEn (k_at A) (kqK (k_at A) K)) = 47 ∨ k_at A (kEn (k_at A) (kqK (k_at A) K)) = 59) → A' 3 2 = (K : Int) + 1 ∧ A' 3 3 = (if k_at A (kEn (k_at A) (kqK (k_at A) K)) = 47 then 1 else 0) ∧ RdE A' (k_at A) (K + 1))
def RdI (A0 A : Nat → Int → Int) (k : Nat) : Prop := RG A ∧ Fo 3 [4, 5] [2, 3] A0 A ∧ A 3 2 = (k : Int) + 1 ∧ (∀ j, j < k → KCo (k_at A0) j) ∧ RdE A (k_at A0) k
theorem V39_0 {d : Nat} (hd : 2 ≤ d) {Q : Option Value → xM → Prop} {W : gW} (hW : HW W) {A : Nat → Int → Int} {P : Nat → Int → Nat} (hR : RG A) (hT : Stat W P) (hG : GL W) (h : wpE (xT 39) (xev xT d) Q (7, [(0, .ref (lo W 3)), (1, .ref (lo W 1)), (2, .int (iz 0))], [], Wm W (UA A 3 2 1) P)) : wpE (xT 39) (xev xT d) Q (0, [(0, .ref (lo W 3)), (1, .ref (lo W 1))], [], Wm W A P) := by
  refine i_push (n := 0) (cc3 c39_0) zl_0 ?_
  refine p_ist (ls' := [(2, .int (iz 0)), (0, .ref (lo W 3)), (1, .ref (lo W 1))]) (cc3 c39_1) (by decide) rfl ?_
  refine p_ald (cc3 c39_2) rfl ?_
  refine i_push (n := 1) (cc3 c39_3) zl_1 ?_
  refine id (α := Rg 1 → _) (fun _ => ?_) (by decide : Rg (1 : Int)); refine w_puti hW (cc3 c39_4) (st_k hT 3 7 (by decide)) (ji := 2) rfl ?_
  exact p_lc (ls' := [(0, .ref (lo W 3)), (1, .ref (lo W 1)), (2, .int (iz 0))]) c39_7 rfl rfl h
theorem V39_7 {d : Nat} (hd : 2 ≤ d) {Q : Option Value → xM → Prop} {W : gW} (hW : HW W) {A : Nat → Int → Int} {P : Nat → Int → Nat} (hR : RG A) (hT : Stat W P) (hG : GL W) {x2 : Int} (rr : Rg x2) (h : (((10 < (A 3 2)) → Q (some (.int (iz x2))) (Wm W A P)) ∧ (¬ (10 < (A 3 2)) → ((((k_at A x2) < 97) → Q (some (.int (iz x2))) (Wm W A P)) ∧ (¬ ((k_at A x2) < 97) → ((((k_at A x2) ≤ 104) → (Rg (x2 + 1)) ∧ (1 ≤ A 3 2 ∧ A 3 2 ≤ 10) ∧ (0 ≤ (x2 + 1) ∧ (x2 + 1) ≤ 100000) ∧ ((((ndK (k_at A) (x2 + 1)) = 0) → Q (some (.int (iz (x2 + 1)))) (Wm W (UA A 5 (A 3 2 - 1) (cvK (k_at A) (x2 + 1))) P)) ∧ (¬ ((ndK (k_at A) (x2 + 1)) = 0) → (Rg (((UA A 5 (A 3 2 - 1) (cvK (k_at A) (x2 + 1))) 3 2) - 1)) ∧ (Rg ((k_at A x2) - 97)) ∧ (0 ≤ (((UA A 5 (A 3 2 - 1) (cvK (k_at A) (x2 + 1))) 3 2) - 1) ∧ (((UA A 5 (A 3 2 - 1) (cvK (k_at A) (x2 + 1))) 3 2) - 1) < 10) ∧ (Rg ((x2 + 1) + (ndK (k_at A) (x2 + 1)))) ∧ ((((k_at (UA (UA A 5 (A 3 2 - 1) (cvK (k_at A) (x2 + 1))) 4 (((UA A 5 (A 3 2 - 1) (cvK (k_at A) (x2 + 1))) 3 2) - 1) ((k_at A x2) - 97)) ((x2 + 1) + (ndK (k_at A) (x2 + 1)))) = 47) → ((((k_at (UA (UA A 5 (A 3 2 - 1) (cvK (k_at A) (x2 + 1))) 4 (((UA A 5 (A 3 2 - 1) (cvK (k_at A) (x2 + 1))) 3 2) - 1) ((k_at A x2) - 97)) ((x2 + 1) + (ndK (k_at A) (x2 + 1)))) = 47) → (Rg (((x2 + 1) + (ndK (k_at A) (x2 + 1))) + 1)) ∧ ((((((x2 + 1) + (ndK (k_at A) (x2 + 1))) + 1) = ((UA A 5 (A 3 2 - 1) (cvK (k_at A) (x2 + 1))) 1 1)) → Q (some (.int (iz (-1)))) (Wm W (UA (UA (UA A 5 (A 3 2 - 1) (cvK (k_at A) (x2 + 1))) 4 (((UA A 5 (A 3 2 - 1) (cvK (k_at A) (x2 + 1))) 3 2) - 1) ((k_at A x2) - 97)) 3 3 1) P)) ∧ (¬ ((((x2 + 1) + (ndK (k_at A) (x2 + 1))) + 1) = ((UA A 5 (A 3 2 - 1) (cvK (k_at A) (x2 + 1))) 1 1)) → Q (some (.int (iz (((x2 + 1) + (ndK (k_at A) (x2 + 1))) + 1)))) (Wm W (UA (UA (UA A 5 (A 3 2 - 1) (cvK (k_at A) (x2 + 1))) 4 (((UA A 5 (A 3 2 - 1) (cvK (k_at A) (x2 + 1))) 3 2) - 1) ((k_at A x2) - 97)) 3 3 1) P)))) ∧ (¬ ((k_at (UA (UA A 5 (A 3 2 - 1) (cvK (k_at A) (x2 + 1))) 4 (((UA A 5 (A 3 2 - 1) (cvK (k_at A) (x2 + 1))) 3 2) - 1) ((k_at A x2) - 97)) ((x2 + 1) + (ndK (k_at A) (x2 + 1)))) = 47) → (Rg (((x2 + 1) + (ndK (k_at A) (x2 + 1))) + 1)) ∧ ((((((x2 + 1) + (ndK (k_at A) (x2 + 1))) + 1) = ((UA A 5 (A 3 2 - 1) (cvK (k_at A) (x2 + 1))) 1 1)) → Q (some (.int (iz (-1)))) (Wm W (UA (UA (UA A 5 (A 3 2 - 1) (cvK (k_at A) (x2 + 1))) 4 (((UA A 5 (A 3 2 - 1) (cvK (k_at A) (x2 + 1))) 3 2) - 1) ((k_at A x2) - 97)) 3 3 0) P)) ∧ (¬ ((((x2 + 1) + (ndK (k_at A) (x2 + 1))) + 1) = ((UA A 5 (A 3 2 - 1) (cvK (k_at A) (x2 + 1))) 1 1)) → Q (some (.int (iz (((x2 + 1) + (ndK (k_at A) (x2 + 1))) + 1)))) (Wm W (UA (UA (UA A 5 (A 3 2 - 1) (cvK (k_at A) (x2 + 1))) 4 (((UA A 5 (A 3 2 - 1) (cvK (k_at A) (x2 + 1))) 3 2) - 1) ((k_at A x2) - 97)) 3 3 0) P)))))) ∧ (¬ ((k_at (UA (UA A 5 (A 3 2 - 1) (cvK (k_at A) (x2 + 1))) 4 (((UA A 5 (A 3 2 - 1) (cvK (k_at A) (x2 + 1))) 3 2) - 1) ((k_at A x2) - 97)) ((x2 + 1) + (ndK (k_at A) (x2 + 1)))) = 47) → ((((k_at (UA (UA A 5 (A 3 2 - 1) (cvK (k_at A) (x2 + 1))) 4 (((UA A 5 (A 3 2 - 1) (cvK (k_at A) (x2 + 1))) 3 2) - 1) ((k_at A x2) - 97)) ((x2 + 1) + (ndK (k_at A) (x2 + 1)))) = 59) → ((((k_at (UA (UA A 5 (A 3 2 - 1) (cvK (k_at A) (x2 + 1))) 4 (((UA A 5 (A 3 2 - 1) (cvK (k_at A) (x2 + 1))) 3 2) - 1) ((k_at A x2) - 97)) ((x2 + 1) + (ndK (k_at A) (x2 + 1)))) = 47) → (Rg (((x2 + 1) + (ndK (k_at A) (x2 + 1))) + 1)) ∧ ((((((x2 + 1) + (ndK (k_at A) (x2 + 1))) + 1) = ((UA A 5 (A 3 2 - 1) (cvK (k_at A) (x2 + 1))) 1 1)) → Q (some (.int (iz (-1)))) (Wm W (UA (UA (UA A 5 (A 3 2 - 1) (cvK (k_at A) (x2 + 1))) 4 (((UA A 5 (A 3 2 - 1) (cvK (k_at A) (x2 + 1))) 3 2) - 1) ((k_at A x2) - 97)) 3 3 1) P)) ∧ (¬ ((((x2 + 1) + (ndK (k_at A) (x2 + 1))) + 1) = ((UA A 5 (A 3 2 - 1) (cvK (k_at A) (x2 + 1))) 1 1)) → Q (some (.int (iz (((x2 + 1) + (ndK (k_at A) (x2 + 1))) + 1)))) (Wm W (UA (UA (UA A 5 (A 3 2 - 1) (cvK (k_at A) (x2 + 1))) 4 (((UA A 5 (A 3 2 - 1) (cvK (k_at A) (x2 + 1))) 3 2) - 1) ((k_at A x2) - 97)) 3 3 1) P)))) ∧ (¬ ((k_at (UA (UA A 5 (A 3 2 - 1) (cvK (k_at A) (x2 + 1))) 4 (((UA A 5 (A 3 2 - 1) (cvK (k_at A) (x2 + 1))) 3 2) - 1) ((k_at A x2) - 97)) ((x2 + 1) + (ndK (k_at A) (x2 + 1)))) = 47) → (Rg (((x2 + 1) + (ndK (k_at A) (x2 + 1))) + 1)) ∧ ((((((x2 + 1) + (ndK (k_at A) (x2 + 1))) + 1) = ((UA A 5 (A 3 2 - 1) (cvK (k_at A) (x2 + 1))) 1 1)) → Q (some (.int (iz (-1)))) (Wm W (UA (UA (UA A 5 (A 3 2 - 1) (cvK (k_at A) (x2 + 1))) 4 (((UA A 5 (A 3 2 - 1) (cvK (k_at A) (x2 + 1))) 3 2) - 1) ((k_at A x2) - 97)) 3 3 0) P)) ∧ (¬ ((((x2 + 1) + (ndK (k_at A) (x2 + 1))) + 1) = ((UA A 5 (A 3 2 - 1) (cvK (k_at A) (x2 + 1))) 1 1)) → Q (some (.int (iz (((x2 + 1) + (ndK (k_at A) (x2 + 1))) + 1)))) (Wm W (UA (UA (UA A 5 (A 3 2 - 1) (cvK (k_at A) (x2 + 1))) 4 (((UA A 5 (A 3 2 - 1) (cvK (k_at A) (x2 + 1))) 3 2) - 1) ((k_at A x2) - 97)) 3 3 0) P)))))) ∧ (¬ ((k_at (UA (UA A 5 (A 3 2 - 1) (cvK (k_at A) (x2 + 1))) 4 (((UA A 5 (A 3 2 - 1) (cvK (k_at A) (x2 + 1))) 3 2) - 1) ((k_at A x2) - 97)) ((x2 + 1) + (ndK (k_at A) (x2 + 1)))) = 59) → ((((k_at (UA (UA A 5 (A 3 2 - 1) (cvK (k_at A) (x2 + 1))) 4 (((UA A 5 (A 3 2 - 1) (cvK (k_at A) (x2 + 1))) 3 2) - 1) ((k_at A x2) - 97)) ((x2 + 1) + (ndK (k_at A) (x2 + 1)))) = 32) → (((((UA A 5 (A 3 2 - 1) (cvK (k_at A) (x2 + 1))) 3 2) = 10) → Q (some (.int (iz ((x2 + 1) + (ndK (k_at A) (x2 + 1)))))) (Wm W (UA (UA A 5 (A 3 2 - 1) (cvK (k_at A) (x2 + 1))) 4 (((UA A 5 (A 3 2 - 1) (cvK (k_at A) (x2 + 1))) 3 2) - 1) ((k_at A x2) - 97)) P)) ∧ (¬ (((UA A 5 (A 3 2 - 1) (cvK (k_at A) (x2 + 1))) 3 2) = 10) → (Rg (((x2 + 1) + (ndK (k_at A) (x2 + 1))) + 1)) ∧ (Rg (((UA A 5 (A 3 2 - 1) (cvK (k_at A) (x2 + 1))) 3 2) + 1)) ∧ wpE (xT 39) (xev xT d) Q (7, [(0, .ref (lo W 3)), (1, .ref (lo W 1)), (2, .int (iz (((x2 + 1) + (ndK (k_at A) (x2 + 1))) + 1)))], [], Wm W (UA (UA (UA A 5 (A 3 2 - 1) (cvK (k_at A) (x2 + 1))) 4 (((UA A 5 (A 3 2 - 1) (cvK (k_at A) (x2 + 1))) 3 2) - 1) ((k_at A x2) - 97)) 3 2 (((UA A 5 (A 3 2 - 1) (cvK (k_at A) (x2 + 1))) 3 2) + 1)) P)))) ∧ (¬ ((k_at (UA (UA A 5 (A 3 2 - 1) (cvK (k_at A) (x2 + 1))) 4 (((UA A 5 (A 3 2 - 1) (cvK (k_at A) (x2 + 1))) 3 2) - 1) ((k_at A x2) - 97)) ((x2 + 1) + (ndK (k_at A) (x2 + 1)))) = 32) → Q (some (.int (iz ((x2 + 1) + (ndK (k_at A) (x2 + 1)))))) (Wm W (UA (UA A 5 (A 3 2 - 1) (cvK (k_at A) (x2 + 1))) 4 (((UA A 5 (A 3 2 - 1) (cvK (k_at A) (x2 + 1))) 3 2) - 1) ((k_at A x2) - 97)) P)))))))))) ∧ (¬ ((k_at A x2) ≤ 104) → Q (some (.int (iz x2))) (Wm W A P)))))))) : wpE (xT 39) (xev xT d) Q (7, [(0, .ref (lo W 3)), (1, .ref (lo W 1)), (2, .int (iz x2))], [], Wm W A P) := by
  refine p_ald (cct c39_7 rfl) rfl ?_
  refine w_geti hW (v := A 3 2) (cc3 c39_8) (st_k hT 3 7 (by decide)) (ji := 2) rfl rfl ?_
  refine i_push (n := 10) (cc3 c39_11) zl_10 ?_
  refine i_icmp (c' := 10 < (A 3 2)) (cc3 c39_13) (iz_lt (by decide : Rg (10 : Int)) (hR 3 2)) (fun c => ?_) (fun c => ?_)
  · have h := h.1 c
    refine p_ild (cc3 c39_162) rfl ?_
    exact p_ri (cc3 c39_163) trivial h
  · have h := h.2 c
    refine p_ald (cc3 c39_16) rfl ?_
    refine p_ild (cc3 c39_17) rfl ?_
    refine p_callV (cc3 c39_18) (Nat.le_of_ble_eq_true rfl) rfl rfl (Nat.le_of_ble_eq_true rfl) (wk_kd hW (by decide) (st_k hT 1 9 (by decide))) (S18 (Nat.le_trans (by decide) hd) hW hR hT hG rr) ?_
    refine p_ist (ls' := [(3, .int (iz (k_at A x2))), (0, .ref (lo W 3)), (1, .ref (lo W 1)), (2, .int (iz x2))]) (cc3 c39_21) (by decide) rfl ?_
    refine p_ild (cc3 c39_22) rfl ?_
    refine i_push (n := 97) (cc3 c39_23) zl_97 ?_
    refine i_icmp (c' := (k_at A x2) < 97) (cc3 c39_25) (iz_lt (rg_at hR) (by decide : Rg (97 : Int))) (fun c => ?_) (fun c => ?_)
    · have h := h.1 c
      refine p_lc (ls' := [(2, .int (iz x2))]) c39_34 rfl rfl ?_
      refine p_ild (cct c39_34 rfl) rfl ?_
      exact p_ri (cc3 c39_35) trivial h
    · have h := h.2 c
      refine p_ild (cc3 c39_28) rfl ?_
      refine i_push (n := 104) (cc3 c39_29) zl_104 ?_
      refine i_icmp (c' := (k_at A x2) ≤ 104) (cc3 c39_31) (iz_le (rg_at hR) (by decide : Rg (104 : Int))) (fun c => ?_) (fun c => ?_)
      · have h := h.1 c
        obtain ⟨g1, h⟩ := h
        refine (fun _ : Rg (x2 + 1) => i_iinc (n := 1) (y := x2 + 1) (ls' := [(2, .int (iz (x2 + 1))), (3, .int (iz (k_at A x2))), (0, .ref (lo W 3)), (1, .ref (lo W 1))]) (cc3 c39_36) (by decide) rfl zl_1 (by first | rfl | omega) rfl ?_) g1
        refine p_ald (cc3 c39_39) rfl ?_
        refine p_ald (cc3 c39_40) rfl ?_
        refine p_ild (cc3 c39_41) rfl ?_
        obtain ⟨g2, h⟩ := h
        obtain ⟨g3, h⟩ := h
        refine p_callV (cc3 c39_42) (Nat.le_of_ble_eq_true rfl) rfl rfl (Nat.le_of_ble_eq_true rfl) (wk_kd hW (by decide) (st_k hT 3 7 (by decide))) (S40 (Nat.le_trans (by decide) hd) hW hR hT hG g1 ⟨g2, g3⟩) ?_
        refine p_ist (ls' := [(4, .int (iz (ndK (k_at A) (x2 + 1)))), (2, .int (iz (x2 + 1))), (3, .int (iz (k_at A x2))), (0, .ref (lo W 3)), (1, .ref (lo W 1))]) (cc3 c39_45) (by decide) rfl ?_
        refine p_ild (cc3 c39_47) rfl ?_
        refine i_if (c' := (ndK (k_at A) (x2 + 1)) = 0) (cc3 c39_49) (c_eq0 rg_ndK) (fun c => ?_) (fun c => ?_)
        · have h := h.1 c
          refine p_ild (cc3 c39_52) rfl ?_
          exact p_ri (cc3 c39_53) trivial h
        · have h := h.2 c
          refine p_ald (cc3 c39_54) rfl ?_
          refine w_getp hW hT.1 (b := 4) (cc3 c39_55) (st_k hT 3 7 (by decide)) (ji := 0) rfl (st_p hT 3 0 4 (by decide)) ?_
          refine p_ald (cc3 c39_58) rfl ?_
          refine w_geti hW (v := (UA A 5 (A 3 2 - 1) (cvK (k_at A) (x2 + 1))) 3 2) (cc3 c39_59) (st_k hT 3 7 (by decide)) (ji := 2) rfl rfl ?_
          refine i_push (n := 1) (cc3 c39_62) zl_1 ?_
          obtain ⟨g4, h⟩ := h
          refine (fun _ : Rg (((UA A 5 (A 3 2 - 1) (cvK (k_at A) (x2 + 1))) 3 2) - 1) => i_sub (cc3 c39_63) ?_) g4
          refine p_ild (cc3 c39_64) rfl ?_
          refine i_push (n := 97) (cc3 c39_65) zl_97 ?_
          obtain ⟨g5, h⟩ := h
          refine (fun _ : Rg ((k_at A x2) - 97) => i_sub (cc3 c39_67) ?_) g5
          obtain ⟨g6, h⟩ := h
          refine id (α := Rg ((k_at A x2) - 97) → _) (fun _ => ?_) g5; refine w_asti hW (cc3 c39_68) (st_k hT 4 20 (by decide)) (st_i hT 4 10 (by decide) g6) rfl ?_
          refine p_ild (cc3 c39_69) rfl ?_
          refine p_ild (cc3 c39_70) rfl ?_
          obtain ⟨g7, h⟩ := h
          refine (fun _ : Rg ((x2 + 1) + (ndK (k_at A) (x2 + 1))) => i_add (cc3 c39_72) ?_) g7
          refine p_ist (ls' := [(2, .int (iz ((x2 + 1) + (ndK (k_at A) (x2 + 1))))), (4, .int (iz (ndK (k_at A) (x2 + 1)))), (3, .int (iz (k_at A x2))), (0, .ref (lo W 3)), (1, .ref (lo W 1))]) (cc3 c39_73) (by decide) rfl ?_
          refine p_ald (cc3 c39_74) rfl ?_
          refine p_ild (cc3 c39_75) rfl ?_
          refine p_callV (cc3 c39_76) (Nat.le_of_ble_eq_true rfl) rfl rfl (Nat.le_of_ble_eq_true rfl) (wk_kd hW (by decide) (st_k hT 1 9 (by decide))) (S18 (Nat.le_trans (by decide) hd) hW (rg_UA (rg_cvK hR) g5) hT hG g7) ?_
          refine p_ist (ls' := [(5, .int (iz (k_at (UA (UA A 5 (A 3 2 - 1) (cvK (k_at A) (x2 + 1))) 4 (((UA A 5 (A 3 2 - 1) (cvK (k_at A) (x2 + 1))) 3 2) - 1) ((k_at A x2) - 97)) ((x2 + 1) + (ndK (k_at A) (x2 + 1)))))), (2, .int (iz ((x2 + 1) + (ndK (k_at A) (x2 + 1))))), (4, .int (iz (ndK (k_at A) (x2 + 1)))), (3, .int (iz (k_at A x2))), (0, .ref (lo W 3)), (1, .ref (lo W 1))]) (cc3 c39_79) (by decide) rfl ?_
          refine p_ild (cc3 c39_81) rfl ?_
          refine i_push (n := 47) (cc3 c39_83) zl_47 ?_
          refine i_icmp (c' := (k_at (UA (UA A 5 (A 3 2 - 1) (cvK (k_at A) (x2 + 1))) 4 (((UA A 5 (A 3 2 - 1) (cvK (k_at A) (x2 + 1))) 3 2) - 1) ((k_at A x2) - 97)) ((x2 + 1) + (ndK (k_at A) (x2 + 1)))) = 47) (cc3 c39_85) (iz_inj (rg_at (rg_UA (rg_cvK hR) g5)) (by decide : Rg (47 : Int))) (fun c => ?_) (fun c => ?_)
          · have h := h.1 c
            refine p_lc (ls' := [(0, .ref (lo W 3)), (1, .ref (lo W 1)), (2, .int (iz ((x2 + 1) + (ndK (k_at A) (x2 + 1))))), (5, .int (iz (k_at (UA (UA A 5 (A 3 2 - 1) (cvK (k_at A) (x2 + 1))) 4 (((UA A 5 (A 3 2 - 1) (cvK (k_at A) (x2 + 1))) 3 2) - 1) ((k_at A x2) - 97)) ((x2 + 1) + (ndK (k_at A) (x2 + 1))))))]) c39_95 rfl rfl ?_
            refine p_ald (cct c39_95 rfl) rfl ?_
            refine p_ild (cc3 c39_96) rfl ?_
            refine i_push (n := 47) (cc3 c39_98) zl_47 ?_
            refine i_icmp (c' := (k_at (UA (UA A 5 (A 3 2 - 1) (cvK (k_at A) (x2 + 1))) 4 (((UA A 5 (A 3 2 - 1) (cvK (k_at A) (x2 + 1))) 3 2) - 1) ((k_at A x2) - 97)) ((x2 + 1) + (ndK (k_at A) (x2 + 1)))) = 47) (cc3 c39_100) (iz_inj (rg_at (rg_UA (rg_cvK hR) g5)) (by decide : Rg (47 : Int))) (fun c => ?_) (fun c => ?_)
            · have h := h.1 c
              refine i_push (n := 1) (cc3 c39_103) zl_1 ?_
              refine p_goto (cc3 c39_104) ?_
              refine p_lc (ls' := [(1, .ref (lo W 1)), (2, .int (iz ((x2 + 1) + (ndK (k_at A) (x2 + 1)))))]) c39_108 rfl rfl ?_
              refine id (α := Rg 1 → _) (fun _ => ?_) (by decide : Rg (1 : Int)); refine w_putb hW (cct c39_108 rfl) (st_k hT 3 7 (by decide)) (ji := 3) rfl (by decide) ?_
              obtain ⟨g8, h⟩ := h
              refine (fun _ : Rg (((x2 + 1) + (ndK (k_at A) (x2 + 1))) + 1) => i_iinc (n := 1) (y := ((x2 + 1) + (ndK (k_at A) (x2 + 1))) + 1) (ls' := [(2, .int (iz (((x2 + 1) + (ndK (k_at A) (x2 + 1))) + 1))), (1, .ref (lo W 1))]) (cc3 c39_111) (by decide) rfl zl_1 (by first | rfl | omega) rfl ?_) g8
              refine p_ild (cc3 c39_114) rfl ?_
              refine p_ald (cc3 c39_115) rfl ?_
              refine w_geti hW (v := (UA A 5 (A 3 2 - 1) (cvK (k_at A) (x2 + 1))) 1 1) (cc3 c39_116) (st_k hT 1 9 (by decide)) (ji := 1) rfl (by first | rfl | exact UA_eq | exact UA_j (by decide) | exact UA_c (by decide)) ?_
              refine i_icmp (c' := (((x2 + 1) + (ndK (k_at A) (x2 + 1))) + 1) = ((UA A 5 (A 3 2 - 1) (cvK (k_at A) (x2 + 1))) 1 1)) (cc3 c39_119) (iz_inj g8 ((rg_cvK hR) 1 1)) (fun c => ?_) (fun c => ?_)
              · have h := h.1 c
                refine i_push (n := (-1)) (cc3 c39_122) zl_m1 ?_
                refine p_goto (cc3 c39_123) ?_
                refine p_lc (ls' := []) c39_127 rfl rfl ?_
                exact p_ri (cct c39_127 rfl) trivial h
              · have h := h.2 c
                refine p_ild (cc3 c39_126) rfl ?_
                refine p_lc (ls' := []) c39_127 rfl rfl ?_
                exact p_ri (cct c39_127 rfl) trivial h
            · have h := h.2 c
              refine i_push (n := 0) (cc3 c39_107) zl_0 ?_
              refine p_lc (ls' := [(1, .ref (lo W 1)), (2, .int (iz ((x2 + 1) + (ndK (k_at A) (x2 + 1)))))]) c39_108 rfl rfl ?_
              refine id (α := Rg 0 → _) (fun _ => ?_) (by decide : Rg (0 : Int)); refine w_putb hW (cct c39_108 rfl) (st_k hT 3 7 (by decide)) (ji := 3) rfl (by decide) ?_
              obtain ⟨g8, h⟩ := h
              refine (fun _ : Rg (((x2 + 1) + (ndK (k_at A) (x2 + 1))) + 1) => i_iinc (n := 1) (y := ((x2 + 1) + (ndK (k_at A) (x2 + 1))) + 1) (ls' := [(2, .int (iz (((x2 + 1) + (ndK (k_at A) (x2 + 1))) + 1))), (1, .ref (lo W 1))]) (cc3 c39_111) (by decide) rfl zl_1 (by first | rfl | omega) rfl ?_) g8
              refine p_ild (cc3 c39_114) rfl ?_
              refine p_ald (cc3 c39_115) rfl ?_
              refine w_geti hW (v := (UA A 5 (A 3 2 - 1) (cvK (k_at A) (x2 + 1))) 1 1) (cc3 c39_116) (st_k hT 1 9 (by decide)) (ji := 1) rfl (by first | rfl | exact UA_eq | exact UA_j (by decide) | exact UA_c (by decide)) ?_
              refine i_icmp (c' := (((x2 + 1) + (ndK (k_at A) (x2 + 1))) + 1) = ((UA A 5 (A 3 2 - 1) (cvK (k_at A) (x2 + 1))) 1 1)) (cc3 c39_119) (iz_inj g8 ((rg_cvK hR) 1 1)) (fun c => ?_) (fun c => ?_)
              · have h := h.1 c
                refine i_push (n := (-1)) (cc3 c39_122) zl_m1 ?_
                refine p_goto (cc3 c39_123) ?_
                refine p_lc (ls' := []) c39_127 rfl rfl ?_
                exact p_ri (cct c39_127 rfl) trivial h
              · have h := h.2 c
                refine p_ild (cc3 c39_126) rfl ?_
                refine p_lc (ls' := []) c39_127 rfl rfl ?_
                exact p_ri (cct c39_127 rfl) trivial h
          · have h := h.2 c
            refine p_ild (cc3 c39_88) rfl ?_
            refine i_push (n := 59) (cc3 c39_90) zl_59 ?_
            refine i_icmp (c' := (k_at (UA (UA A 5 (A 3 2 - 1) (cvK (k_at A) (x2 + 1))) 4 (((UA A 5 (A 3 2 - 1) (cvK (k_at A) (x2 + 1))) 3 2) - 1) ((k_at A x2) - 97)) ((x2 + 1) + (ndK (k_at A) (x2 + 1)))) = 59) (cc3 c39_92) (iz_inj (rg_at (rg_UA (rg_cvK hR) g5)) (by decide : Rg (59 : Int))) (fun c => ?_) (fun c => ?_)
            · have h := h.1 c
              refine p_lc (ls' := [(0, .ref (lo W 3)), (1, .ref (lo W 1)), (2, .int (iz ((x2 + 1) + (ndK (k_at A) (x2 + 1))))), (5, .int (iz (k_at (UA (UA A 5 (A 3 2 - 1) (cvK (k_at A) (x2 + 1))) 4 (((UA A 5 (A 3 2 - 1) (cvK (k_at A) (x2 + 1))) 3 2) - 1) ((k_at A x2) - 97)) ((x2 + 1) + (ndK (k_at A) (x2 + 1))))))]) c39_95 rfl rfl ?_
              refine p_ald (cct c39_95 rfl) rfl ?_
              refine p_ild (cc3 c39_96) rfl ?_
              refine i_push (n := 47) (cc3 c39_98) zl_47 ?_
              refine i_icmp (c' := (k_at (UA (UA A 5 (A 3 2 - 1) (cvK (k_at A) (x2 + 1))) 4 (((UA A 5 (A 3 2 - 1) (cvK (k_at A) (x2 + 1))) 3 2) - 1) ((k_at A x2) - 97)) ((x2 + 1) + (ndK (k_at A) (x2 + 1)))) = 47) (cc3 c39_100) (iz_inj (rg_at (rg_UA (rg_cvK hR) g5)) (by decide : Rg (47 : Int))) (fun c => ?_) (fun c => ?_)
              · have h := h.1 c
                refine i_push (n := 1) (cc3 c39_103) zl_1 ?_
                refine p_goto (cc3 c39_104) ?_
                refine p_lc (ls' := [(1, .ref (lo W 1)), (2, .int (iz ((x2 + 1) + (ndK (k_at A) (x2 + 1)))))]) c39_108 rfl rfl ?_
                refine id (α := Rg 1 → _) (fun _ => ?_) (by decide : Rg (1 : Int)); refine w_putb hW (cct c39_108 rfl) (st_k hT 3 7 (by decide)) (ji := 3) rfl (by decide) ?_
                obtain ⟨g8, h⟩ := h
                refine (fun _ : Rg (((x2 + 1) + (ndK (k_at A) (x2 + 1))) + 1) => i_iinc (n := 1) (y := ((x2 + 1) + (ndK (k_at A) (x2 + 1))) + 1) (ls' := [(2, .int (iz (((x2 + 1) + (ndK (k_at A) (x2 + 1))) + 1))), (1, .ref (lo W 1))]) (cc3 c39_111) (by decide) rfl zl_1 (by first | rfl | omega) rfl ?_) g8
                refine p_ild (cc3 c39_114) rfl ?_
                refine p_ald (cc3 c39_115) rfl ?_
                refine w_geti hW (v := (UA A 5 (A 3 2 - 1) (cvK (k_at A) (x2 + 1))) 1 1) (cc3 c39_116) (st_k hT 1 9 (by decide)) (ji := 1) rfl (by first | rfl | exact UA_eq | exact UA_j (by decide) | exact UA_c (by decide)) ?_
                refine i_icmp (c' := (((x2 + 1) + (ndK (k_at A) (x2 + 1))) + 1) = ((UA A 5 (A 3 2 - 1) (cvK (k_at A) (x2 + 1))) 1 1)) (cc3 c39_119) (iz_inj g8 ((rg_cvK hR) 1 1)) (fun c => ?_) (fun c => ?_)
                · have h := h.1 c
                  refine i_push (n := (-1)) (cc3 c39_122) zl_m1 ?_
                  refine p_goto (cc3 c39_123) ?_
                  refine p_lc (ls' := []) c39_127 rfl rfl ?_
                  exact p_ri (cct c39_127 rfl) trivial h
                · have h := h.2 c
                  refine p_ild (cc3 c39_126) rfl ?_
                  refine p_lc (ls' := []) c39_127 rfl rfl ?_
                  exact p_ri (cct c39_127 rfl) trivial h
              · have h := h.2 c
                refine i_push (n := 0) (cc3 c39_107) zl_0 ?_
                refine p_lc (ls' := [(1, .ref (lo W 1)), (2, .int (iz ((x2 + 1) + (ndK (k_at A) (x2 + 1)))))]) c39_108 rfl rfl ?_
                refine id (α := Rg 0 → _) (fun _ => ?_) (by decide : Rg (0 : Int)); refine w_putb hW (cct c39_108 rfl) (st_k hT 3 7 (by decide)) (ji := 3) rfl (by decide) ?_
                obtain ⟨g8, h⟩ := h
                refine (fun _ : Rg (((x2 + 1) + (ndK (k_at A) (x2 + 1))) + 1) => i_iinc (n := 1) (y := ((x2 + 1) + (ndK (k_at A) (x2 + 1))) + 1) (ls' := [(2, .int (iz (((x2 + 1) + (ndK (k_at A) (x2 + 1))) + 1))), (1, .ref (lo W 1))]) (cc3 c39_111) (by decide) rfl zl_1 (by first | rfl | omega) rfl ?_) g8
                refine p_ild (cc3 c39_114) rfl ?_
                refine p_ald (cc3 c39_115) rfl ?_
                refine w_geti hW (v := (UA A 5 (A 3 2 - 1) (cvK (k_at A) (x2 + 1))) 1 1) (cc3 c39_116) (st_k hT 1 9 (by decide)) (ji := 1) rfl (by first | rfl | exact UA_eq | exact UA_j (by decide) | exact UA_c (by decide)) ?_
                refine i_icmp (c' := (((x2 + 1) + (ndK (k_at A) (x2 + 1))) + 1) = ((UA A 5 (A 3 2 - 1) (cvK (k_at A) (x2 + 1))) 1 1)) (cc3 c39_119) (iz_inj g8 ((rg_cvK hR) 1 1)) (fun c => ?_) (fun c => ?_)
                · have h := h.1 c
                  refine i_push (n := (-1)) (cc3 c39_122) zl_m1 ?_
                  refine p_goto (cc3 c39_123) ?_
                  refine p_lc (ls' := []) c39_127 rfl rfl ?_
                  exact p_ri (cct c39_127 rfl) trivial h
                · have h := h.2 c
                  refine p_ild (cc3 c39_126) rfl ?_
                  refine p_lc (ls' := []) c39_127 rfl rfl ?_
                  exact p_ri (cct c39_127 rfl) trivial h
            · have h := h.2 c
              refine p_ild (cc3 c39_128) rfl ?_
              refine i_push (n := 32) (cc3 c39_130) zl_32 ?_
              refine i_icmp (c' := (k_at (UA (UA A 5 (A 3 2 - 1) (cvK (k_at A) (x2 + 1))) 4 (((UA A 5 (A 3 2 - 1) (cvK (k_at A) (x2 + 1))) 3 2) - 1) ((k_at A x2) - 97)) ((x2 + 1) + (ndK (k_at A) (x2 + 1)))) = 32) (cc3 c39_132) (iz_inj (rg_at (rg_UA (rg_cvK hR) g5)) (by decide : Rg (32 : Int))) (fun c => ?_) (fun c => ?_)
              · have h := h.1 c
                refine p_ald (cc3 c39_135) rfl ?_
                refine w_geti hW (v := (UA A 5 (A 3 2 - 1) (cvK (k_at A) (x2 + 1))) 3 2) (cc3 c39_136) (st_k hT 3 7 (by decide)) (ji := 2) rfl (by first | rfl | exact UA_eq | exact UA_j (by decide) | exact UA_c (by decide)) ?_
                refine i_push (n := 10) (cc3 c39_139) zl_10 ?_
                refine i_icmp (c' := ((UA A 5 (A 3 2 - 1) (cvK (k_at A) (x2 + 1))) 3 2) = 10) (cc3 c39_141) (iz_inj ((rg_cvK hR) 3 2) (by decide : Rg (10 : Int))) (fun c => ?_) (fun c => ?_)
                · have h := h.1 c
                  refine p_lc (ls' := [(2, .int (iz ((x2 + 1) + (ndK (k_at A) (x2 + 1)))))]) c39_144 rfl rfl ?_
                  refine p_ild (cct c39_144 rfl) rfl ?_
                  exact p_ri (cc3 c39_145) trivial h
                · have h := h.2 c
                  obtain ⟨g8, h⟩ := h
                  refine (fun _ : Rg (((x2 + 1) + (ndK (k_at A) (x2 + 1))) + 1) => i_iinc (n := 1) (y := ((x2 + 1) + (ndK (k_at A) (x2 + 1))) + 1) (ls' := [(2, .int (iz (((x2 + 1) + (ndK (k_at A) (x2 + 1))) + 1))), (5, .int (iz (k_at (UA (UA A 5 (A 3 2 - 1) (cvK (k_at A) (x2 + 1))) 4 (((UA A 5 (A 3 2 - 1) (cvK (k_at A) (x2 + 1))) 3 2) - 1) ((k_at A x2) - 97)) ((x2 + 1) + (ndK (k_at A) (x2 + 1)))))), (4, .int (iz (ndK (k_at A) (x2 + 1)))), (3, .int (iz (k_at A x2))), (0, .ref (lo W 3)), (1, .ref (lo W 1))]) (cc3 c39_146) (by decide) rfl zl_1 (by first | rfl | omega) rfl ?_) g8
                  refine p_ald (cc3 c39_149) rfl ?_
                  refine p_dup (cc3 c39_150) rfl ?_
                  refine w_geti hW (v := (UA A 5 (A 3 2 - 1) (cvK (k_at A) (x2 + 1))) 3 2) (cc3 c39_151) (st_k hT 3 7 (by decide)) (ji := 2) rfl (by first | rfl | exact UA_eq | exact UA_j (by decide) | exact UA_c (by decide)) ?_
                  refine i_push (n := 1) (cc3 c39_154) zl_1 ?_
                  obtain ⟨g9, h⟩ := h
                  refine (fun _ : Rg (((UA A 5 (A 3 2 - 1) (cvK (k_at A) (x2 + 1))) 3 2) + 1) => i_add (cc3 c39_155) ?_) g9
                  refine id (α := Rg (((UA A 5 (A 3 2 - 1) (cvK (k_at A) (x2 + 1))) 3 2) + 1) → _) (fun _ => ?_) g9; refine w_puti hW (cc3 c39_156) (st_k hT 3 7 (by decide)) (ji := 2) rfl ?_
                  refine p_goto (cc3 c39_159) ?_
                  exact p_lc (ls' := [(0, .ref (lo W 3)), (1, .ref (lo W 1)), (2, .int (iz (((x2 + 1) + (ndK (k_at A) (x2 + 1))) + 1)))]) c39_7 rfl rfl h
              · have h := h.2 c
                refine p_lc (ls' := [(2, .int (iz ((x2 + 1) + (ndK (k_at A) (x2 + 1)))))]) c39_144 rfl rfl ?_
                refine p_ild (cct c39_144 rfl) rfl ?_
                exact p_ri (cc3 c39_145) trivial h
      · have h := h.2 c
        refine p_lc (ls' := [(2, .int (iz x2))]) c39_34 rfl rfl ?_
        refine p_ild (cct c39_34 rfl) rfl ?_
        exact p_ri (cc3 c39_35) trivial h

theorem L39 {d : Nat} (hd : 2 ≤ d) {Q : Option Value → xM → Prop} {W : gW} (hW : HW W) {A0 A : Nat → Int → Int} {P : Nat → Int → Nat} (hT : Stat W P) (hG : GL W) {k : Nat} (hk : k < 10) (hI : RdI A0 A k)
    (hQ : ∀ (r : Int) (A' : Nat → Int → Int), Rg r → RG A' → RdK A0 A' r → Q (some (.int (iz r))) (Wm W A' P))
    (hc : k + 1 < 10 → ∀ A', RdI A0 A' (k + 1) → wpE (xT 39) (xev xT d) Q (7, [(0, .ref (lo W 3)), (1, .ref (lo W 1)), (2, .int (iz (kqK (k_at A0) (k + 1))))], [], Wm W A' P)) :
    wpE (xT 39) (xev xT d) Q (7, [(0, .ref (lo W 3)), (1, .ref (lo W 1)), (2, .int (iz (kqK (k_at A0) k)))], [], Wm W A P) := by
  obtain ⟨hR, hF, h32, hC, hE⟩ := hI
  have e1 : A 1 = A0 1 := hF.1 1 (by decide) (by decide)
  have e2 : A 2 = A0 2 := hF.1 2 (by decide) (by decide)
  have hf : k_at A = k_at A0 := by funext p; unfold k_at; rw [e1, e2]
  have ek : ∀ (j v j' v' : Int), k_at (UA (UA A 5 j v) 4 j' v') = k_at A := fun j v j' v' => rfl
  have e3 : ∀ (j v i : Int), UA A 5 j v 3 i = A 3 i := fun j v i => rfl
  have e11 : ∀ (j v i : Int), UA A 5 j v 1 i = A 1 i := fun j v i => rfl
  have hz : A 3 2 - 1 = (k : Int) := by omega
  have hrp := hR 2 (kqK (k_at A0) k)
  have en : kqK (k_at A0) (k + 1) = kqK (k_at A0) k + 1 + ndK (k_at A0) (kqK (k_at A0) k + 1) + 1 := rfl
  have hpb := kqK_b (f := k_at A0) k
  have hnd := ndK_b (f := k_at A0) (p := kqK (k_at A0) k + 1)
  have hcv := cvK_b (f := k_at A0) (p := kqK (k_at A0) k + 1)
  have fin : ∀ (r : Int) (A' : Nat → Int → Int), Rg r → RG A' → Fo 3 [4, 5] [2, 3] A0 A' → ¬ KCo (k_at A0) k → r = kFt (k_at A0) (A0 1 1) (kqK (k_at A0) k) → (KO (k_at A0) (kqK (k_at A0) k) ∧ (k_at A0 (kEn (k_at A0) (kqK (k_at A0) k)) = 47 ∨ k_at A0 (kEn (k_at A0) (kqK (k_at A0) k)) = 59) → A' 3 2 = (k : Int) + 1 ∧ A' 3 3 = (if k_at A0 (kEn (k_at A0) (kqK (k_at A0) k)) = 47 then 1 else 0) ∧ RdE A' (k_at A0) (k + 1)) → Q (some (.int (iz r))) (Wm W A' P) := fun r A' h1 h2 h3 h4 h5 h6 => hQ r A' h1 h2 ⟨h3, k, hk, hC, h4, h5, h6⟩
  have hc' : k + 1 < 10 → ∀ A', RG A' → Fo 3 [4, 5] [2, 3] A0 A' → A' 3 2 = ((k + 1 : Nat) : Int) + 1 → (∀ j, j < k + 1 → KCo (k_at A0) j) → RdE A' (k_at A0) (k + 1) → wpE (xT 39) (xev xT d) Q (7, [(0, .ref (lo W 3)), (1, .ref (lo W 1)), (2, .int (iz (kqK (k_at A0) k + 1 + ndK (k_at A0) (kqK (k_at A0) k + 1) + 1)))], [], Wm W A' P) := fun z A' h1 h2 h3 h4 h5 => by
    have := hc z A' ⟨h1, h2, h3, h4, h5⟩
    rw [en] at this
    exact this
  clear hc hQ
  refine V39_7 hd hW hR hT hG ⟨by omega, by omega⟩ ?_
  simp only [ek, e3, e11, hf, hz, e1]
  generalize hpe : kqK (k_at A0) k = p at *
  generalize hfe : k_at A0 = f at *
  have FA : Fo 3 [4, 5] [2, 3] A0 (UA A 5 k (cvK f (p + 1))) := hF.row (by simp) (by decide)
  have RA : RG (UA A 5 k (cvK f (p + 1))) := rg_UA hR ⟨by omega, by omega⟩
  have no1 : ¬ KO f p → ∀ x, x = kFt f (A0 1 1) p → x = (if 97 ≤ f p ∧ f p ≤ 104 then p + 1 else p) := fun q x h => by rw [h]; unfold kFt; rw [if_pos q]
  have bad : ¬ KO f p → (if 97 ≤ f p ∧ f p ≤ 104 then p + 1 else p) = kFt f (A0 1 1) p := fun q => (no1 q _ rfl).symm
  have nkc : ¬ KO f p → ¬ KCo f k := fun q z => q (by have := z.1; rw [hpe] at this; exact this)
  refine ⟨fun z => absurd z (by omega), fun _ => ⟨fun c1 => ?_, fun c1 => ⟨fun c2 => ⟨⟨by omega, by omega⟩, ⟨by omega, by omega⟩, ⟨by omega, by omega⟩, fun c3 => ?_, fun c3 => ?_⟩, fun c2 => ?_⟩⟩⟩
  · have q : ¬ KO f p := fun z => by have := z.1; omega
    refine fin p A ⟨by omega, by omega⟩ hR hF (nkc q) (by rw [← bad q, if_neg (by omega)]) (fun z => absurd z.1 q)
  · have q : ¬ KO f p := fun z => z.2.2 c3
    refine fin (p + 1) _ ⟨by omega, by omega⟩ RA FA (nkc q) (by rw [← bad q, if_pos ⟨by omega, c2⟩]) (fun z => absurd z.1 q)
  · have hKO : KO f p := ⟨by omega, c2, c3⟩
    have RB : RG (UA (UA A 5 k (cvK f (p + 1))) 4 k (f p - 97)) := rg_UA RA ⟨by omega, by omega⟩
    have FB : Fo 3 [4, 5] [2, 3] A0 (UA (UA A 5 k (cvK f (p + 1))) 4 k (f p - 97)) := FA.row (by simp) (by decide)
    have EB : RdE (UA (UA A 5 k (cvK f (p + 1))) 4 k (f p - 97)) f (k + 1) := fun j hj => by
      by_cases e : j = k
      · subst e
        rw [hpe, UA_eq, UA_c (by decide), UA_eq]
        exact ⟨rfl, rfl⟩
      · rw [UA_j (by omega), UA_c (by decide), UA_c (by decide), UA_j (by omega)]
        exact hE j (by omega)
    have good : kFt f (A0 1 1) p = if f (p + 1 + ndK f (p + 1)) = 47 ∨ f (p + 1 + ndK f (p + 1)) = 59 then (if p + 1 + ndK f (p + 1) + 1 = A0 1 1 then -1 else p + 1 + ndK f (p + 1) + 1) else p + 1 + ndK f (p + 1) := by
      unfold kFt; rw [if_neg (not_not_intro hKO)]
    have nk2 : ¬ (f (p + 1 + ndK f (p + 1)) = 32 ∧ k + 1 < 10) → ¬ KCo f k := fun q z => q (by have := z.2; rw [hpe] at this; exact this)
    have end1 : ∀ v : Int, (v = 0 ∨ v = 1) → v = (if f (p + 1 + ndK f (p + 1)) = 47 then 1 else 0) → (f (p + 1 + ndK f (p + 1)) = 47 ∨ f (p + 1 + ndK f (p + 1)) = 59) → Rg (p + 1 + ndK f (p + 1) + 1) ∧ ((p + 1 + ndK f (p + 1) + 1 = A0 1 1 → Q (some (.int (iz (-1)))) (Wm W (UA (UA (UA A 5 k (cvK f (p + 1))) 4 k (f p - 97)) 3 3 v) P)) ∧ (¬ p + 1 + ndK f (p + 1) + 1 = A0 1 1 → Q (some (.int (iz (p + 1 + ndK f (p + 1) + 1)))) (Wm W (UA (UA (UA A 5 k (cvK f (p + 1))) 4 k (f p - 97)) 3 3 v) P))) := fun v v01 hv hs => by
      have post : KO f p ∧ (f (kEn f p) = 47 ∨ f (kEn f p) = 59) → (UA (UA (UA A 5 k (cvK f (p + 1))) 4 k (f p - 97)) 3 3 v) 3 2 = (k : Int) + 1 ∧ (UA (UA (UA A 5 k (cvK f (p + 1))) 4 k (f p - 97)) 3 3 v) 3 3 = (if f (kEn f p) = 47 then 1 else 0) ∧ RdE (UA (UA (UA A 5 k (cvK f (p + 1))) 4 k (f p - 97)) 3 3 v) f (k + 1) := fun _ => ⟨h32, hv, EB⟩
      have R3 : RG (UA (UA (UA A 5 k (cvK f (p + 1))) 4 k (f p - 97)) 3 3 v) := rg_UA RB ⟨by omega, by omega⟩
      exact ⟨⟨by omega, by omega⟩, fun c => fin (-1) _ (by decide) R3 (FB.fld (by decide)) (nk2 (fun z => by omega)) (by rw [good, if_pos hs, if_pos c]) post, fun c => fin _ _ ⟨by omega, by omega⟩ R3 (FB.fld (by decide)) (nk2 (fun z => by omega)) (by rw [good, if_pos hs, if_neg c]) post⟩
    refine ⟨⟨by omega, by omega⟩, ⟨by omega, by omega⟩, ⟨by omega, by omega⟩, ⟨by omega, by omega⟩, fun c4 => ⟨fun _ => end1 1 (Or.inr rfl) (by rw [if_pos c4]) (Or.inl c4), fun z => absurd c4 z⟩, fun c4 => ⟨fun c5 => ⟨fun z => absurd z c4, fun _ => end1 0 (Or.inl rfl) (by rw [if_neg c4]) (Or.inr c5)⟩, fun c5 => ⟨fun c6 => ⟨fun c7 => ?_, fun c7 => ⟨⟨by omega, by omega⟩, ⟨by omega, by omega⟩, ?_⟩⟩, fun c6 => ?_⟩⟩⟩
    · exact fin _ _ ⟨by omega, by omega⟩ RB FB (nk2 (fun z => by omega)) (by rw [good, if_neg (by omega)]) (fun z => absurd z.2 (by rintro (q | q); exact c4 q; exact c5 q))
    · refine hc' (by omega) _ (rg_UA RB ⟨by omega, by omega⟩) (FB.fld (by decide)) (by rw [UA_eq, h32]; omega) (fun j hj => ?_) EB
      by_cases e : j = k
      · subst e; exact ⟨by rw [hpe]; exact hKO, by rw [hpe]; exact c6, by omega⟩
      · exact hC j (by omega)
    · exact fin _ _ ⟨by omega, by omega⟩ RB FB (nk2 (fun z => c6 z.1)) (by rw [good, if_neg (by omega)]) (fun z => absurd z.2 (by rintro (q | q); exact c4 q; exact c5 q))
  · have q : ¬ KO f p := fun z => c2 z.2.1
    refine fin p A ⟨by omega, by omega⟩ hR hF (nkc q) (by rw [← bad q, if_neg (by omega)]) (fun z => absurd z.1 q)
theorem L39r {d : Nat} (hd : 2 ≤ d) {Q : Option Value → xM → Prop} {W : gW} (hW : HW W) {A0 : Nat → Int → Int} {P : Nat → Int → Nat} (hT : Stat W P) (hG : GL W)
    (hQ : ∀ (r : Int) (A' : Nat → Int → Int), Rg r → RG A' → RdK A0 A' r → Q (some (.int (iz r))) (Wm W A' P)) :
    ∀ (r k : Nat) (A : Nat → Int → Int), k + r = 9 → RdI A0 A k → wpE (xT 39) (xev xT d) Q (7, [(0, .ref (lo W 3)), (1, .ref (lo W 1)), (2, .int (iz (kqK (k_at A0) k)))], [], Wm W A P)
  | 0, k, A, hk, hI => L39 hd hW hT hG (by omega) hI hQ (fun z => absurd z (by omega))
  | r + 1, k, A, hk, hI => L39 hd hW hT hG (by omega) hI hQ (fun _ A' h' => L39r hd hW hT hG hQ r (k + 1) A' (by omega) h')
theorem S39 {d : Nat} (hd : 3 ≤ d) {W : gW} (hW : HW W) {A : Nat → Int → Int} {P : Nat → Int → Nat} (hR : RG A) (hT : Stat W P) (hG : GL W) : ∃ (r : Int) (A' : Nat → Int → Int), xev xT d 39 [.ref (lo W 3), .ref (lo W 1)] (Wm W A P) (some (.int (iz r))) (Wm W A' P) ∧ Rg r ∧ RG A' ∧ (RdK A A' r) := by
  refine xev_g (i := 39) (as := [.ref (lo W 3), .ref (lo W 1)]) (σ := Wm W A P) (Q := fun r_ σ_ => ∃ (r : Int) (A' : Nat → Int → Int), r_ = (some (.int (iz r))) ∧ σ_ = Wm W A' P ∧ Rg r ∧ RG A' ∧ (RdK A A' r)) (D := 2) hd (Nat.le_of_ble_eq_true rfl) (fun r_ σ_ he hq => ?_) (fun d hd => V39_0 hd hW hR hT hG ?_)
  · obtain ⟨r, A', rfl, rfl, hq⟩ := hq
    exact ⟨r, A', he, hq⟩

  exact L39r hd hW hT hG (A0 := A) (fun r A' h1 h2 h3 => ⟨r, A', rfl, rfl, h1, h2, h3⟩) 9 0 _ rfl ⟨rg_UA hR (by decide), Fo.rf.fld (by decide), rfl, fun j hj => absurd hj (by omega), fun j hj => absurd hj (by omega)⟩
