def k_usd (A : Nat → Int → Int) (k s : Nat) (t : Int) : Int := A 8 3 + t * A s 1 + A k 7
abbrev k_ucb (A : Nat → Int → Int) (k b s : Nat) (t : Int) : Prop := A 8 3 + t * A s 1 + A k 7 ≤ A b 2 ∧ ¬ k_isF A b (A 8 3 + t * A s 1) (A k 7)
abbrev k_cf (A : Nat → Int → Int) (k s : Nat) (p m : Int) : Prop := A k 6 < ykw A k p + ykl A k p m * A s 1
/-- the last pleat: i from r - 1 down to 0, x so far -/
def k_und (A : Nat → Int → Int) (k b s : Nat) (t : Int) : Nat → Int → Int
  | 0, x => x
  | r + 1, x => k_und A k b s t r (if k_ucb A k b s (t + r) then t + r else x)
/-- another pleat: depths 1 .. r -/
def k_mid (A : Nat → Int → Int) (k s : Nat) (p t : Int) : Nat → Int
  | 0 => -1
  | m + 1 => if k_cf A k s p ((m : Int) + 1) then k_fewer (k_mid A k s p t m) (k_kept A (p + 1) (t + ykl A k p ((m : Int) + 1))) else k_mid A k s p t m
def k_few (A : Nat → Int → Int) (k b s : Nat) (p t : Int) : Int := if A b 2 < k_usd A k s t ∨ k_isF A b (A 10 p + t * A s 1) (A k 6) then -1 else if p = A k 4 - 1 then k_und A k b s t 4 (-1) else k_mid A k s p t 4
theorem k_und_r {A : Nat → Int → Int} {k b s : Nat} {t : Int} : ∀ (r : Nat) (x : Int), k_und A k b s t r x = x ∨ (t ≤ k_und A k b s t r x ∧ k_und A k b s t r x < t + r)
  | 0, x => Or.inl rfl
  | r + 1, x => by
    have h := k_und_r (A := A) (k := k) (b := b) (s := s) (t := t) r (if k_ucb A k b s (t + r) then t + r else x)
    show k_und A k b s t r (if k_ucb A k b s (t + r) then t + r else x) = x ∨ (t ≤ k_und A k b s t r (if k_ucb A k b s (t + r) then t + r else x) ∧ k_und A k b s t r (if k_ucb A k b s (t + r) then t + r else x) < t + ((r + 1 : Nat) : Int))
    by_cases c : k_ucb A k b s (t + r)
    · rw [if_pos c] at h ⊢
      omega
    · rw [if_neg c] at h ⊢
      omega
theorem rg_mid {A : Nat → Int → Int} (h : RG A) {k s : Nat} {p t : Int} : ∀ r : Nat, Rg (k_mid A k s p t r)
  | 0 => by show Rg (-1); decide
  | r + 1 => by
    show Rg (if k_cf A k s p ((r : Int) + 1) then k_fewer (k_mid A k s p t r) (k_kept A (p + 1) (t + ykl A k p ((r : Int) + 1))) else k_mid A k s p t r)
    exact rg_ite (rg_few ⟨rg_mid h r, rg_kept h⟩) (rg_mid h r)
theorem rg_fewF {A : Nat → Int → Int} (h : RG A) {k b s : Nat} {p t : Int} (ht : 0 ≤ t ∧ t ≤ 990) : Rg (k_few A k b s p t) := by
  have := k_und_r (A := A) (k := k) (b := b) (s := s) (t := t) 4 (-1)
  unfold k_few
  refine rg_ite (by decide) (rg_ite ?_ (rg_mid h 4))
  constructor <;> omega
def k_dep (A : Nat → Int → Int) (k s : Nat) (p t : Int) : Nat → Int → Int
  | 0, m => m
  | r + 1, m => if k_cf A k s p m ∧ k_kept A (p + 1) (t + ykl A k p m) = A 8 4 then m else k_dep A k s p t r (m + 1)
theorem k_dep_r {A : Nat → Int → Int} {k s : Nat} {p t : Int} : ∀ (r : Nat) (m : Int), m ≤ k_dep A k s p t r m ∧ k_dep A k s p t r m ≤ m + r
  | 0, m => ⟨Int.le_refl m, by show m ≤ m + 0; omega⟩
  | r + 1, m => by
    have h := k_dep_r (A := A) (k := k) (s := s) (p := p) (t := t) r (m + 1)
    unfold k_dep
    split <;> omega
theorem V76_0 {d : Nat} (hd : 3 ≤ d) {Q : Option Value → xM → Prop} {W : gW} (hW : HW W) {A : Nat → Int → Int} {P : Nat → Int → Nat} (hR : RG A) (hT : Stat W P) (hG : GL W) {x1 x2 : Int} (rr : Rg x1 ∧ Rg x2) (h : (LyC W P A) ∧ (0 ≤ A 8 3 ∧ A 8 3 ≤ 100000) ∧ (0 ≤ x2 ∧ x2 ≤ 1000) ∧ (¬ P 8 6 = 0) ∧ (gK W (P 8 6 - 1) = 1) ∧ ((((A (P 8 6 - 1) 2) < (A 8 3 + x2 * A (P 8 7 - 1) 1 + A (P 8 5 - 1) 7)) → Q (some (.int (iz (-1)))) (Wm W A P)) ∧ (¬ ((A (P 8 6 - 1) 2) < (A 8 3 + x2 * A (P 8 7 - 1) 1 + A (P 8 5 - 1) 7)) → (0 ≤ x1 ∧ x1 < 24) ∧ (¬ P 8 7 = 0) ∧ (gK W (P 8 7 - 1) = 6) ∧ (Rg (x2 * (A (P 8 7 - 1) 1))) ∧ (Rg ((A 10 x1) + (x2 * (A (P 8 7 - 1) 1)))) ∧ (¬ P 8 5 = 0) ∧ (gK W (P 8 5 - 1) = 3) ∧ (OBt W P A (P 8 6 - 1)) ∧ (Rg (((A 10 x1) + (x2 * (A (P 8 7 - 1) 1))) + (A (P 8 5 - 1) 6))) ∧ ((¬ (¬ k_isF A (P 8 6 - 1) ((A 10 x1) + (x2 * (A (P 8 7 - 1) 1))) (A (P 8 5 - 1) 6)) → Q (some (.int (iz (-1)))) (Wm W A P)) ∧ ((¬ k_isF A (P 8 6 - 1) ((A 10 x1) + (x2 * (A (P 8 7 - 1) 1))) (A (P 8 5 - 1) 6)) → (Rg ((A (P 8 5 - 1) 4) - 1)) ∧ (((x1 = ((A (P 8 5 - 1) 4) - 1)) → wpE (xT 76) (xev xT d) Q (68, [(0, .ref (lo W 8)), (2, .int (iz x2)), (3, .int (iz (-1))), (4, .int (iz 3))], [], Wm W A P)) ∧ (¬ (x1 = ((A (P 8 5 - 1) 4) - 1)) → wpE (xT 76) (xev xT d) Q (104, [(0, .ref (lo W 8)), (1, .int (iz x1)), (2, .int (iz x2)), (3, .int (iz (-1))), (4, .int (iz 1))], [], Wm W A P)))))))) : wpE (xT 76) (xev xT d) Q (0, [(0, .ref (lo W 8)), (1, .int (iz x1)), (2, .int (iz x2))], [], Wm W A P) := by
  refine p_ald (cc3 c76_0) rfl ?_
  refine p_ild (cc3 c76_1) rfl ?_
  obtain ⟨g1, h⟩ := h
  obtain ⟨g2, h⟩ := h
  obtain ⟨g3, h⟩ := h
  refine p_callV (cc3 c76_2) (Nat.le_of_ble_eq_true rfl) rfl rfl (Nat.le_of_ble_eq_true rfl) (wk_kd hW (by decide) (st_k hT 8 4 (by decide))) (S77 (Nat.le_trans (by decide) hd) hW hR hT hG rr.2 ⟨g1, g2, g3⟩) ?_
  refine p_ald (cc3 c76_5) rfl ?_
  obtain ⟨g4, h⟩ := h
  refine w_getp0 hW hT.1 (cc3 c76_6) (st_k hT 8 4 (by decide)) (ji := 6) rfl g4 ?_
  obtain ⟨g5, h⟩ := h
  refine w_geti hW (v := A (P 8 6 - 1) 2) (cc3 c76_9) g5 (ji := 2) rfl rfl ?_
  refine i_icmp (c' := (A (P 8 6 - 1) 2) < (A 8 3 + x2 * A (P 8 7 - 1) 1 + A (P 8 5 - 1) 7)) (cc3 c76_12) (iz_lt (hR (P 8 6 - 1) 2) (rg_usd ⟨g1, g2, g3⟩)) (fun c => ?_) (fun c => ?_)
  · have h := h.1 c
    refine p_lc (ls' := []) c76_48 rfl rfl ?_
    refine i_push (n := (-1)) (cct c76_48 rfl) zl_m1 ?_
    exact p_ri (cc3 c76_49) trivial h
  · have h := h.2 c
    refine p_ald (cc3 c76_15) rfl ?_
    refine w_getp0 hW hT.1 (cc3 c76_16) (st_k hT 8 4 (by decide)) (ji := 6) rfl g4 ?_
    refine p_ald (cc3 c76_19) rfl ?_
    refine w_getp hW hT.1 (b := 10) (cc3 c76_20) (st_k hT 8 4 (by decide)) (ji := 1) rfl (st_p hT 8 1 10 (by decide)) ?_
    refine p_ild (cc3 c76_23) rfl ?_
    obtain ⟨g6, h⟩ := h
    refine w_aldi hW (v := A 10 x1) (cc3 c76_24) (st_k hT 10 20 (by decide)) (st_i hT 10 24 (by decide) g6) rfl ?_
    refine p_ild (cc3 c76_25) rfl ?_
    refine p_ald (cc3 c76_26) rfl ?_
    obtain ⟨g7, h⟩ := h
    refine w_getp0 hW hT.1 (cc3 c76_27) (st_k hT 8 4 (by decide)) (ji := 7) rfl g7 ?_
    obtain ⟨g8, h⟩ := h
    refine w_geti hW (v := A (P 8 7 - 1) 1) (cc3 c76_30) g8 (ji := 1) rfl rfl ?_
    obtain ⟨g9, h⟩ := h
    refine (fun _ : Rg (x2 * (A (P 8 7 - 1) 1)) => i_mul (cc3 c76_33) ?_) g9
    obtain ⟨g10, h⟩ := h
    refine (fun _ : Rg ((A 10 x1) + (x2 * (A (P 8 7 - 1) 1))) => i_add (cc3 c76_34) ?_) g10
    refine p_ald (cc3 c76_35) rfl ?_
    obtain ⟨g11, h⟩ := h
    refine w_getp0 hW hT.1 (cc3 c76_36) (st_k hT 8 4 (by decide)) (ji := 5) rfl g11 ?_
    obtain ⟨g12, h⟩ := h
    refine w_geti hW (v := A (P 8 5 - 1) 6) (cc3 c76_39) g12 (ji := 6) rfl rfl ?_
    obtain ⟨g13, h⟩ := h
    obtain ⟨g14, h⟩ := h
    refine p_callV (cc3 c76_42) (Nat.le_of_ble_eq_true rfl) rfl rfl (Nat.le_of_ble_eq_true rfl) (wk_kd hW (by decide) g5) (S56 (Nat.le_trans (by decide) hd) hW hR hT hG ⟨g10, (hR (P 8 5 - 1) 6)⟩ ⟨g13, g14⟩) ?_
    refine i_ifB (cc3 c76_45) (fun c => ?_) (fun c => ?_)
    · have h := h.1 c
      refine p_lc (ls' := []) c76_48 rfl rfl ?_
      refine i_push (n := (-1)) (cct c76_48 rfl) zl_m1 ?_
      exact p_ri (cc3 c76_49) trivial h
    · have h := h.2 c
      refine i_push (n := (-1)) (cc3 c76_50) zl_m1 ?_
      refine p_ist (ls' := [(3, .int (iz (-1))), (0, .ref (lo W 8)), (1, .int (iz x1)), (2, .int (iz x2))]) (cc3 c76_51) (by decide) rfl ?_
      refine p_ild (cc3 c76_52) rfl ?_
      refine p_ald (cc3 c76_53) rfl ?_
      refine w_getp0 hW hT.1 (cc3 c76_54) (st_k hT 8 4 (by decide)) (ji := 5) rfl g11 ?_
      refine w_geti hW (v := A (P 8 5 - 1) 4) (cc3 c76_57) g12 (ji := 4) rfl rfl ?_
      refine i_push (n := 1) (cc3 c76_60) zl_1 ?_
      obtain ⟨g15, h⟩ := h
      refine (fun _ : Rg ((A (P 8 5 - 1) 4) - 1) => i_sub (cc3 c76_61) ?_) g15
      refine i_icmp (c' := x1 = ((A (P 8 5 - 1) 4) - 1)) (cc3 c76_62) (iz_inj rr.1 g15) (fun c => ?_) (fun c => ?_)
      · have h := h.1 c
        refine i_push (n := 3) (cc3 c76_65) zl_3 ?_
        refine p_ist (ls' := [(4, .int (iz 3)), (3, .int (iz (-1))), (0, .ref (lo W 8)), (1, .int (iz x1)), (2, .int (iz x2))]) (cc3 c76_66) (by decide) rfl ?_
        exact p_lc (ls' := [(0, .ref (lo W 8)), (2, .int (iz x2)), (3, .int (iz (-1))), (4, .int (iz 3))]) c76_68 rfl rfl h
      · have h := h.2 c
        refine i_push (n := 1) (cc3 c76_101) zl_1 ?_
        refine p_ist (ls' := [(4, .int (iz 1)), (3, .int (iz (-1))), (0, .ref (lo W 8)), (1, .int (iz x1)), (2, .int (iz x2))]) (cc3 c76_102) (by decide) rfl ?_
        exact p_lc (ls' := [(0, .ref (lo W 8)), (1, .int (iz x1)), (2, .int (iz x2)), (3, .int (iz (-1))), (4, .int (iz 1))]) c76_104 rfl rfl h
theorem V76_68 {d : Nat} (hd : 3 ≤ d) {Q : Option Value → xM → Prop} {W : gW} (hW : HW W) {A : Nat → Int → Int} {P : Nat → Int → Nat} (hR : RG A) (hT : Stat W P) (hG : GL W) {x2 x3 x4 : Int} (rr : Rg x2 ∧ Rg x3 ∧ Rg x4) (h : (((x4 < 0) → Q (some (.int (iz x3))) (Wm W A P)) ∧ (¬ (x4 < 0) → (Rg (x2 + x4)) ∧ (LyC W P A) ∧ (0 ≤ A 8 3 ∧ A 8 3 ≤ 100000) ∧ (0 ≤ (x2 + x4) ∧ (x2 + x4) ≤ 1000) ∧ ((¬ (A 8 3 + (x2 + x4) * A (P 8 7 - 1) 1 + A (P 8 5 - 1) 7 ≤ A (P 8 6 - 1) 2 ∧ ¬ k_isF A (P 8 6 - 1) (A 8 3 + (x2 + x4) * A (P 8 7 - 1) 1) (A (P 8 5 - 1) 7)) → (Rg (x4 - 1)) ∧ wpE (xT 76) (xev xT d) Q (68, [(0, .ref (lo W 8)), (2, .int (iz x2)), (3, .int (iz x3)), (4, .int (iz (x4 - 1)))], [], Wm W A P)) ∧ ((A 8 3 + (x2 + x4) * A (P 8 7 - 1) 1 + A (P 8 5 - 1) 7 ≤ A (P 8 6 - 1) 2 ∧ ¬ k_isF A (P 8 6 - 1) (A 8 3 + (x2 + x4) * A (P 8 7 - 1) 1) (A (P 8 5 - 1) 7)) → (Rg (x4 - 1)) ∧ wpE (xT 76) (xev xT d) Q (68, [(0, .ref (lo W 8)), (2, .int (iz x2)), (3, .int (iz (x2 + x4))), (4, .int (iz (x4 - 1)))], [], Wm W A P)))))) : wpE (xT 76) (xev xT d) Q (68, [(0, .ref (lo W 8)), (2, .int (iz x2)), (3, .int (iz x3)), (4, .int (iz x4))], [], Wm W A P) := by
  refine p_ild (cct c76_68 rfl) rfl ?_
  refine i_if (c' := x4 < 0) (cc3 c76_70) (c_lt0 rr.2.2) (fun c => ?_) (fun c => ?_)
  · have h := h.1 c
    refine p_ild (cc3 c76_99) rfl ?_
    exact p_ri (cc3 c76_100) trivial h
  · have h := h.2 c
    refine p_ald (cc3 c76_73) rfl ?_
    refine p_ild (cc3 c76_74) rfl ?_
    refine p_ild (cc3 c76_75) rfl ?_
    obtain ⟨g1, h⟩ := h
    refine (fun _ : Rg (x2 + x4) => i_add (cc3 c76_77) ?_) g1
    obtain ⟨g2, h⟩ := h
    obtain ⟨g3, h⟩ := h
    obtain ⟨g4, h⟩ := h
    refine p_callV (cc3 c76_78) (Nat.le_of_ble_eq_true rfl) rfl rfl (Nat.le_of_ble_eq_true rfl) (wk_kd hW (by decide) (st_k hT 8 4 (by decide))) (S78 (Nat.le_trans (by decide) hd) hW hR hT hG g1 ⟨g2, g3, g4⟩) ?_
    refine i_ifB (cc3 c76_81) (fun c => ?_) (fun c => ?_)
    · have h := h.1 c
      refine p_ild (cc3 c76_91) rfl ?_
      refine p_lc (ls' := [(0, .ref (lo W 8)), (2, .int (iz x2)), (4, .int (iz x4))]) c76_92 rfl rfl ?_
      refine p_ist (ls' := [(3, .int (iz x3)), (0, .ref (lo W 8)), (2, .int (iz x2)), (4, .int (iz x4))]) (cct c76_92 rfl) (by decide) rfl ?_
      obtain ⟨g5, h⟩ := h
      refine (fun _ : Rg (x4 - 1) => i_iinc (n := (-1)) (y := x4 - 1) (ls' := [(4, .int (iz (x4 - 1))), (3, .int (iz x3)), (0, .ref (lo W 8)), (2, .int (iz x2))]) (cc3 c76_93) (by decide) rfl zl_m1 (by first | rfl | omega) rfl ?_) g5
      refine p_goto (cc3 c76_96) ?_
      exact p_lc (ls' := [(0, .ref (lo W 8)), (2, .int (iz x2)), (3, .int (iz x3)), (4, .int (iz (x4 - 1)))]) c76_68 rfl rfl h
    · have h := h.2 c
      refine p_ild (cc3 c76_84) rfl ?_
      refine p_ild (cc3 c76_85) rfl ?_
      refine (fun _ : Rg (x2 + x4) => i_add (cc3 c76_87) ?_) g1
      refine p_goto (cc3 c76_88) ?_
      refine p_lc (ls' := [(0, .ref (lo W 8)), (2, .int (iz x2)), (4, .int (iz x4))]) c76_92 rfl rfl ?_
      refine p_ist (ls' := [(3, .int (iz (x2 + x4))), (0, .ref (lo W 8)), (2, .int (iz x2)), (4, .int (iz x4))]) (cct c76_92 rfl) (by decide) rfl ?_
      obtain ⟨g5, h⟩ := h
      refine (fun _ : Rg (x4 - 1) => i_iinc (n := (-1)) (y := x4 - 1) (ls' := [(4, .int (iz (x4 - 1))), (3, .int (iz (x2 + x4))), (0, .ref (lo W 8)), (2, .int (iz x2))]) (cc3 c76_93) (by decide) rfl zl_m1 (by first | rfl | omega) rfl ?_) g5
      refine p_goto (cc3 c76_96) ?_
      exact p_lc (ls' := [(0, .ref (lo W 8)), (2, .int (iz x2)), (3, .int (iz (x2 + x4))), (4, .int (iz (x4 - 1)))]) c76_68 rfl rfl h
theorem V76_104 {d : Nat} (hd : 3 ≤ d) {Q : Option Value → xM → Prop} {W : gW} (hW : HW W) {A : Nat → Int → Int} {P : Nat → Int → Nat} (hR : RG A) (hT : Stat W P) (hG : GL W) {x1 x2 x3 x4 : Int} (rr : Rg x1 ∧ Rg x2 ∧ Rg x3 ∧ Rg x4) (h : (((4 < x4) → Q (some (.int (iz x3))) (Wm W A P)) ∧ (¬ (4 < x4) → (LyC W P A) ∧ (1 ≤ x4 ∧ x4 ≤ 4) ∧ ((¬ (A (P 8 5 - 1) 6 < ykw A (P 8 5 - 1) x1 + ykl A (P 8 5 - 1) x1 x4 * A (P 8 7 - 1) 1) → (Rg (x4 + 1)) ∧ wpE (xT 76) (xev xT d) Q (104, [(0, .ref (lo W 8)), (1, .int (iz x1)), (2, .int (iz x2)), (3, .int (iz x3)), (4, .int (iz (x4 + 1)))], [], Wm W A P)) ∧ ((A (P 8 5 - 1) 6 < ykw A (P 8 5 - 1) x1 + ykl A (P 8 5 - 1) x1 x4 * A (P 8 7 - 1) 1) → (Rg (x1 + 1)) ∧ (Rg (x2 + (ykl A (P 8 5 - 1) x1 x4))) ∧ (Rg (x4 + 1)) ∧ wpE (xT 76) (xev xT d) Q (104, [(0, .ref (lo W 8)), (1, .int (iz x1)), (2, .int (iz x2)), (3, .int (iz (k_fewer x3 (k_kept A (x1 + 1) (x2 + (ykl A (P 8 5 - 1) x1 x4)))))), (4, .int (iz (x4 + 1)))], [], Wm W A P)))))) : wpE (xT 76) (xev xT d) Q (104, [(0, .ref (lo W 8)), (1, .int (iz x1)), (2, .int (iz x2)), (3, .int (iz x3)), (4, .int (iz x4))], [], Wm W A P) := by
  refine p_ild (cct c76_104 rfl) rfl ?_
  refine i_push (n := 4) (cc3 c76_106) zl_4 ?_
  refine i_icmp (c' := 4 < x4) (cc3 c76_107) (iz_lt (by decide : Rg (4 : Int)) rr.2.2.2) (fun c => ?_) (fun c => ?_)
  · have h := h.1 c
    refine p_ild (cc3 c76_147) rfl ?_
    exact p_ri (cc3 c76_148) trivial h
  · have h := h.2 c
    refine p_ald (cc3 c76_110) rfl ?_
    refine p_ild (cc3 c76_111) rfl ?_
    refine p_ild (cc3 c76_112) rfl ?_
    obtain ⟨g1, h⟩ := h
    obtain ⟨g2, h⟩ := h
    refine p_callV (cc3 c76_114) (Nat.le_of_ble_eq_true rfl) rfl rfl (Nat.le_of_ble_eq_true rfl) (wk_kd hW (by decide) (st_k hT 8 4 (by decide))) (S79 (Nat.le_trans (by decide) hd) hW hR hT hG ⟨rr.1, rr.2.2.2⟩ ⟨g1, g2⟩) ?_
    refine i_ifB (cc3 c76_117) (fun c => ?_) (fun c => ?_)
    · have h := h.1 c
      obtain ⟨g3, h⟩ := h
      refine (fun _ : Rg (x4 + 1) => i_iinc (n := 1) (y := x4 + 1) (ls' := [(4, .int (iz (x4 + 1))), (0, .ref (lo W 8)), (1, .int (iz x1)), (2, .int (iz x2)), (3, .int (iz x3))]) (cct c76_141 rfl) (by decide) rfl zl_1 (by first | rfl | omega) rfl ?_) g3
      refine p_goto (cc3 c76_144) ?_
      exact p_lc (ls' := [(0, .ref (lo W 8)), (1, .int (iz x1)), (2, .int (iz x2)), (3, .int (iz x3)), (4, .int (iz (x4 + 1)))]) c76_104 rfl rfl h
    · have h := h.2 c
      refine p_ild (cc3 c76_120) rfl ?_
      refine p_ald (cc3 c76_121) rfl ?_
      refine p_ild (cc3 c76_122) rfl ?_
      refine i_push (n := 1) (cc3 c76_123) zl_1 ?_
      obtain ⟨g3, h⟩ := h
      refine (fun _ : Rg (x1 + 1) => i_add (cc3 c76_124) ?_) g3
      refine p_ild (cc3 c76_125) rfl ?_
      refine p_ald (cc3 c76_126) rfl ?_
      refine p_ild (cc3 c76_127) rfl ?_
      refine p_ild (cc3 c76_128) rfl ?_
      refine p_callV (cc3 c76_130) (Nat.le_of_ble_eq_true rfl) rfl rfl (Nat.le_of_ble_eq_true rfl) (wk_kd hW (by decide) (st_k hT 8 4 (by decide))) (S75 (Nat.le_trans (by decide) hd) hW hR hT hG ⟨rr.1, rr.2.2.2⟩ ⟨g1, g2⟩) ?_
      obtain ⟨g4, h⟩ := h
      refine (fun _ : Rg (x2 + (ykl A (P 8 5 - 1) x1 x4)) => i_add (cc3 c76_133) ?_) g4
      refine p_callV (cc3 c76_134) (Nat.le_of_ble_eq_true rfl) rfl rfl (Nat.le_of_ble_eq_true rfl) (wk_kd hW (by decide) (st_k hT 8 4 (by decide))) (S80 (Nat.le_trans (by decide) hd) hW hR hT hG ⟨g3, g4⟩) ?_
      refine p_callS (cc3 c76_137) (Nat.le_of_ble_eq_true rfl) rfl rfl (Nat.le_of_ble_eq_true rfl) (S81 (Nat.le_trans (by decide) hd) ⟨rr.2.2.1, (rg_kept hR)⟩) ?_
      refine p_ist (ls' := [(3, .int (iz (k_fewer x3 (k_kept A (x1 + 1) (x2 + (ykl A (P 8 5 - 1) x1 x4)))))), (0, .ref (lo W 8)), (1, .int (iz x1)), (2, .int (iz x2)), (4, .int (iz x4))]) (cc3 c76_140) (by decide) rfl ?_
      refine p_lc (ls' := [(0, .ref (lo W 8)), (1, .int (iz x1)), (2, .int (iz x2)), (3, .int (iz (k_fewer x3 (k_kept A (x1 + 1) (x2 + (ykl A (P 8 5 - 1) x1 x4)))))), (4, .int (iz x4))]) c76_141 rfl rfl ?_
      obtain ⟨g5, h⟩ := h
      refine (fun _ : Rg (x4 + 1) => i_iinc (n := 1) (y := x4 + 1) (ls' := [(4, .int (iz (x4 + 1))), (0, .ref (lo W 8)), (1, .int (iz x1)), (2, .int (iz x2)), (3, .int (iz (k_fewer x3 (k_kept A (x1 + 1) (x2 + (ykl A (P 8 5 - 1) x1 x4))))))]) (cct c76_141 rfl) (by decide) rfl zl_1 (by first | rfl | omega) rfl ?_) g5
      refine p_goto (cc3 c76_144) ?_
      exact p_lc (ls' := [(0, .ref (lo W 8)), (1, .int (iz x1)), (2, .int (iz x2)), (3, .int (iz (k_fewer x3 (k_kept A (x1 + 1) (x2 + (ykl A (P 8 5 - 1) x1 x4)))))), (4, .int (iz (x4 + 1)))]) c76_104 rfl rfl h

theorem rg_fewP {P : Nat → Int → Nat} {A : Nat → Int → Int} (h : RG A) {p t : Int} {a b c d : Prop} (hp : a ∧ b ∧ c ∧ (0 ≤ t ∧ t ≤ 210) ∧ d) : Rg (k_few A (P 8 5 - 1) (P 8 6 - 1) (P 8 7 - 1) p t) := rg_fewF h (by have := hp.2.2.2.1; omega)
theorem L76a {d : Nat} (hd : 3 ≤ d) {Q : Option Value → xM → Prop} {W : gW} (hW : HW W) {A : Nat → Int → Int} {P : Nat → Int → Nat} (hR : RG A) (hT : Stat W P) (hG : GL W) (hp : LyC W P A) (h83 : 0 ≤ A 8 3 ∧ A 8 3 ≤ 100000) {t : Int} (ht : 0 ≤ t ∧ t ≤ 210) :
    ∀ (r : Nat) (x : Int), r ≤ 4 → Rg x → Q (some (.int (iz (k_und A (P 8 5 - 1) (P 8 6 - 1) (P 8 7 - 1) t r x)))) (Wm W A P) → wpE (xT 76) (xev xT d) Q (68, [(0, .ref (lo W 8)), (2, .int (iz t)), (3, .int (iz x)), (4, .int (iz ((r : Int) - 1)))], [], Wm W A P) := by
  intro r
  induction r with
  | zero =>
    intro x hr rx hQ
    exact V76_68 hd hW hR hT hG ⟨⟨by omega, by omega⟩, rx, ⟨by omega, by omega⟩⟩ ⟨fun _ => hQ, fun c => absurd (by omega) c⟩
  | succ r ih =>
    intro x hr rx hQ
    have e : ((r + 1 : Nat) : Int) - 1 = r := by omega
    rw [e]
    unfold k_und at hQ
    refine V76_68 hd hW hR hT hG ⟨⟨by omega, by omega⟩, rx, ⟨by omega, by omega⟩⟩ ⟨fun c => absurd c (by omega), fun _ => ⟨⟨by omega, by omega⟩, hp, h83, ⟨by omega, by omega⟩, fun c => ⟨⟨by omega, by omega⟩, ?_⟩, fun c => ⟨⟨by omega, by omega⟩, ?_⟩⟩⟩
    · rw [if_neg c] at hQ; exact ih x (by omega) rx hQ
    · rw [if_pos c] at hQ; exact ih (t + r) (by omega) ⟨by omega, by omega⟩ hQ
theorem L76b {d : Nat} (hd : 3 ≤ d) {Q : Option Value → xM → Prop} {W : gW} (hW : HW W) {A : Nat → Int → Int} {P : Nat → Int → Nat} (hR : RG A) (hT : Stat W P) (hG : GL W) (hp : LyC W P A) {p t : Int} (ht : 0 ≤ t ∧ t ≤ 210) (hp0 : 0 ≤ p ∧ p < 24)
    (hQ : Q (some (.int (iz (k_mid A (P 8 5 - 1) (P 8 7 - 1) p t 4)))) (Wm W A P)) :
    ∀ (r k : Nat), k + r = 4 → wpE (xT 76) (xev xT d) Q (104, [(0, .ref (lo W 8)), (1, .int (iz p)), (2, .int (iz t)), (3, .int (iz (k_mid A (P 8 5 - 1) (P 8 7 - 1) p t k))), (4, .int (iz ((k : Int) + 1)))], [], Wm W A P) := by
  intro r
  induction r with
  | zero =>
    intro k hk
    have e : k = 4 := hk
    subst e
    exact V76_104 hd hW hR hT hG ⟨⟨by omega, by omega⟩, ⟨by omega, by omega⟩, rg_mid hR 4, by decide⟩ ⟨fun _ => hQ, fun c => absurd (by decide) c⟩
  | succ r ih =>
    intro k hk
    have hb := ykl_b (A := A) (k := P 8 5 - 1) (p := p) (m := (k : Int) + 1) (by omega)
    have := ih (k + 1) (by omega)
    rw [show ((k + 1 : Nat) : Int) = (k : Int) + 1 from rfl] at this
    have es : k_mid A (P 8 5 - 1) (P 8 7 - 1) p t (k + 1) = if k_cf A (P 8 5 - 1) (P 8 7 - 1) p ((k : Int) + 1) then k_fewer (k_mid A (P 8 5 - 1) (P 8 7 - 1) p t k) (k_kept A (p + 1) (t + ykl A (P 8 5 - 1) p ((k : Int) + 1))) else k_mid A (P 8 5 - 1) (P 8 7 - 1) p t k := rfl
    rw [es] at this
    refine V76_104 hd hW hR hT hG ⟨⟨by omega, by omega⟩, ⟨by omega, by omega⟩, rg_mid hR k, ⟨by omega, by omega⟩⟩ ⟨fun c => absurd c (by omega), fun _ => ⟨hp, by omega, fun c => ⟨⟨by omega, by omega⟩, ?_⟩, fun c => ⟨⟨by omega, by omega⟩, ⟨by omega, by omega⟩, ⟨by omega, by omega⟩, ?_⟩⟩⟩
    · rw [if_neg c] at this; exact this
    · rw [if_pos c] at this; exact this
theorem S76 {d : Nat} (hd : 4 ≤ d) {W : gW} (hW : HW W) {A : Nat → Int → Int} {P : Nat → Int → Nat} (hR : RG A) (hT : Stat W P) (hG : GL W) {x1 x2 : Int} (rr : Rg x1 ∧ Rg x2) (hp : (LyC W P A) ∧ (0 ≤ A 8 3 ∧ A 8 3 ≤ 100000) ∧ (0 ≤ x1 ∧ x1 < A (P 8 5 - 1) 4) ∧ (0 ≤ x2 ∧ x2 ≤ 210) ∧ (0 ≤ A 10 x1 ∧ A 10 x1 ≤ 100000)) : xev xT d 76 [.ref (lo W 8), .int (iz x1), .int (iz x2)] (Wm W A P) (some (.int (iz (k_few A (P 8 5 - 1) (P 8 6 - 1) (P 8 7 - 1) x1 x2)))) (Wm W A P) := by
  refine xev_i (D := 3) hd (Nat.le_of_ble_eq_true rfl) (fun d hd => V76_0 hd hW hR hT hG rr ?_)

  obtain ⟨p1, p2, p3, p4, p5⟩ := hp
  have p1' := p1
  obtain ⟨⟨n5, n6, n7⟩, hk, hb, hs, hd9⟩ := p1'
  have b3 := pd_b p1 (x := x2) (by omega)
  have h4 := hk.2.2.2.1
  have h6 := hk.2.2.2.2.2.2.1
  have no : (A (P 8 6 - 1) 2 < k_usd A (P 8 5 - 1) (P 8 7 - 1) x2 ∨ k_isF A (P 8 6 - 1) (A 10 x1 + x2 * A (P 8 7 - 1) 1) (A (P 8 5 - 1) 6)) → (some (Value.int (iz (-1))) = some (.int (iz (k_few A (P 8 5 - 1) (P 8 6 - 1) (P 8 7 - 1) x1 x2))) ∧ Wm W A P = Wm W A P) := fun q => ⟨vq (by unfold k_few; rw [if_pos q]), rfl⟩
  refine ⟨p1, p2, by omega, n6, hb.1.1, fun c => no (Or.inl c), fun c => ⟨by omega, n7, hs.1.1, ⟨by omega, by omega⟩, ⟨by omega, by omega⟩, n5, hk.1, hb, ⟨by omega, by omega⟩, fun c2 => no (Or.inr (Classical.not_not.mp c2)), fun c2 => ⟨⟨by omega, by omega⟩, fun c3 => ?_, fun c3 => ?_⟩⟩⟩
  · have := L76a (Q := fun r' s' => r' = some (.int (iz (k_few A (P 8 5 - 1) (P 8 6 - 1) (P 8 7 - 1) x1 x2))) ∧ s' = Wm W A P) hd hW hR hT hG p1 p2 p4 4 (-1) (Nat.le_refl 4) (by decide) ⟨vq (by unfold k_few; rw [if_neg (by rintro (q | q); exact c q; exact c2 q), if_pos c3]), rfl⟩
    exact this
  · have := L76b (Q := fun r' s' => r' = some (.int (iz (k_few A (P 8 5 - 1) (P 8 6 - 1) (P 8 7 - 1) x1 x2))) ∧ s' = Wm W A P) hd hW hR hT hG p1 p4 (p := x1) (by omega) ⟨vq (by unfold k_few; rw [if_neg (by rintro (q | q); exact c q; exact c2 q), if_neg c3]), rfl⟩ 4 0 rfl
    exact this
theorem V84_0 {d : Nat} (hd : 3 ≤ d) {Q : Option Value → xM → Prop} {W : gW} (hW : HW W) {A : Nat → Int → Int} {P : Nat → Int → Nat} (hR : RG A) (hT : Stat W P) (hG : GL W) {x1 x2 : Int} (rr : Rg x1 ∧ Rg x2) (h : wpE (xT 84) (xev xT d) Q (2, [(0, .ref (lo W 8)), (1, .int (iz x1)), (2, .int (iz x2)), (3, .int (iz 1))], [], Wm W A P)) : wpE (xT 84) (xev xT d) Q (0, [(0, .ref (lo W 8)), (1, .int (iz x1)), (2, .int (iz x2))], [], Wm W A P) := by
  refine i_push (n := 1) (cc3 c84_0) zl_1 ?_
  refine p_ist (ls' := [(3, .int (iz 1)), (0, .ref (lo W 8)), (1, .int (iz x1)), (2, .int (iz x2))]) (cc3 c84_1) (by decide) rfl ?_
  exact p_lc (ls' := [(0, .ref (lo W 8)), (1, .int (iz x1)), (2, .int (iz x2)), (3, .int (iz 1))]) c84_2 rfl rfl h
theorem V84_2 {d : Nat} (hd : 3 ≤ d) {Q : Option Value → xM → Prop} {W : gW} (hW : HW W) {A : Nat → Int → Int} {P : Nat → Int → Nat} (hR : RG A) (hT : Stat W P) (hG : GL W) {x1 x2 x3 : Int} (rr : Rg x1 ∧ Rg x2 ∧ Rg x3) (h : (((4 ≤ x3) → Q (some (.int (iz 4))) (Wm W A P)) ∧ (¬ (4 ≤ x3) → (LyC W P A) ∧ (1 ≤ x3 ∧ x3 ≤ 4) ∧ ((¬ (A (P 8 5 - 1) 6 < ykw A (P 8 5 - 1) x1 + ykl A (P 8 5 - 1) x1 x3 * A (P 8 7 - 1) 1) → (Rg (x3 + 1)) ∧ wpE (xT 84) (xev xT d) Q (2, [(0, .ref (lo W 8)), (1, .int (iz x1)), (2, .int (iz x2)), (3, .int (iz (x3 + 1)))], [], Wm W A P)) ∧ ((A (P 8 5 - 1) 6 < ykw A (P 8 5 - 1) x1 + ykl A (P 8 5 - 1) x1 x3 * A (P 8 7 - 1) 1) → (Rg (x1 + 1)) ∧ (Rg (x2 + (ykl A (P 8 5 - 1) x1 x3))) ∧ ((((k_kept A (x1 + 1) (x2 + (ykl A (P 8 5 - 1) x1 x3))) = (A 8 4)) → Q (some (.int (iz x3))) (Wm W A P)) ∧ (¬ ((k_kept A (x1 + 1) (x2 + (ykl A (P 8 5 - 1) x1 x3))) = (A 8 4)) → (Rg (x3 + 1)) ∧ wpE (xT 84) (xev xT d) Q (2, [(0, .ref (lo W 8)), (1, .int (iz x1)), (2, .int (iz x2)), (3, .int (iz (x3 + 1)))], [], Wm W A P)))))))) : wpE (xT 84) (xev xT d) Q (2, [(0, .ref (lo W 8)), (1, .int (iz x1)), (2, .int (iz x2)), (3, .int (iz x3))], [], Wm W A P) := by
  refine p_ild (cct c84_2 rfl) rfl ?_
  refine i_push (n := 4) (cc3 c84_3) zl_4 ?_
  refine i_icmp (c' := 4 ≤ x3) (cc3 c84_4) (iz_le (by decide : Rg (4 : Int)) rr.2.2) (fun c => ?_) (fun c => ?_)
  · have h := h.1 c
    refine i_push (n := 4) (cc3 c84_46) zl_4 ?_
    exact p_ri (cc3 c84_47) trivial h
  · have h := h.2 c
    refine p_ald (cc3 c84_7) rfl ?_
    refine p_ild (cc3 c84_8) rfl ?_
    refine p_ild (cc3 c84_9) rfl ?_
    obtain ⟨g1, h⟩ := h
    obtain ⟨g2, h⟩ := h
    refine p_callV (cc3 c84_10) (Nat.le_of_ble_eq_true rfl) rfl rfl (Nat.le_of_ble_eq_true rfl) (wk_kd hW (by decide) (st_k hT 8 4 (by decide))) (S79 (Nat.le_trans (by decide) hd) hW hR hT hG ⟨rr.1, rr.2.2⟩ ⟨g1, g2⟩) ?_
    refine i_ifB (cc3 c84_13) (fun c => ?_) (fun c => ?_)
    · have h := h.1 c
      obtain ⟨g3, h⟩ := h
      refine (fun _ : Rg (x3 + 1) => i_iinc (n := 1) (y := x3 + 1) (ls' := [(3, .int (iz (x3 + 1))), (0, .ref (lo W 8)), (1, .int (iz x1)), (2, .int (iz x2))]) (cct c84_40 rfl) (by decide) rfl zl_1 (by first | rfl | omega) rfl ?_) g3
      refine p_goto (cc3 c84_43) ?_
      exact p_lc (ls' := [(0, .ref (lo W 8)), (1, .int (iz x1)), (2, .int (iz x2)), (3, .int (iz (x3 + 1)))]) c84_2 rfl rfl h
    · have h := h.2 c
      refine p_ald (cc3 c84_16) rfl ?_
      refine p_ild (cc3 c84_17) rfl ?_
      refine i_push (n := 1) (cc3 c84_18) zl_1 ?_
      obtain ⟨g3, h⟩ := h
      refine (fun _ : Rg (x1 + 1) => i_add (cc3 c84_19) ?_) g3
      refine p_ild (cc3 c84_20) rfl ?_
      refine p_ald (cc3 c84_21) rfl ?_
      refine p_ild (cc3 c84_22) rfl ?_
      refine p_ild (cc3 c84_23) rfl ?_
      refine p_callV (cc3 c84_24) (Nat.le_of_ble_eq_true rfl) rfl rfl (Nat.le_of_ble_eq_true rfl) (wk_kd hW (by decide) (st_k hT 8 4 (by decide))) (S75 (Nat.le_trans (by decide) hd) hW hR hT hG ⟨rr.1, rr.2.2⟩ ⟨g1, g2⟩) ?_
      obtain ⟨g4, h⟩ := h
      refine (fun _ : Rg (x2 + (ykl A (P 8 5 - 1) x1 x3)) => i_add (cc3 c84_27) ?_) g4
      refine p_callV (cc3 c84_28) (Nat.le_of_ble_eq_true rfl) rfl rfl (Nat.le_of_ble_eq_true rfl) (wk_kd hW (by decide) (st_k hT 8 4 (by decide))) (S80 (Nat.le_trans (by decide) hd) hW hR hT hG ⟨g3, g4⟩) ?_
      refine p_ald (cc3 c84_31) rfl ?_
      refine w_geti hW (v := A 8 4) (cc3 c84_32) (st_k hT 8 4 (by decide)) (ji := 4) rfl rfl ?_
      refine i_icmp (c' := (k_kept A (x1 + 1) (x2 + (ykl A (P 8 5 - 1) x1 x3))) = (A 8 4)) (cc3 c84_35) (iz_inj (rg_kept hR) (hR 8 4)) (fun c => ?_) (fun c => ?_)
      · have h := h.1 c
        refine p_ild (cc3 c84_38) rfl ?_
        exact p_ri (cc3 c84_39) trivial h
      · have h := h.2 c
        obtain ⟨g5, h⟩ := h
        refine (fun _ : Rg (x3 + 1) => i_iinc (n := 1) (y := x3 + 1) (ls' := [(3, .int (iz (x3 + 1))), (0, .ref (lo W 8)), (1, .int (iz x1)), (2, .int (iz x2))]) (cct c84_40 rfl) (by decide) rfl zl_1 (by first | rfl | omega) rfl ?_) g5
        refine p_goto (cc3 c84_43) ?_
        exact p_lc (ls' := [(0, .ref (lo W 8)), (1, .int (iz x1)), (2, .int (iz x2)), (3, .int (iz (x3 + 1)))]) c84_2 rfl rfl h

theorem rg_dep {A : Nat → Int → Int} {k s : Nat} {p t : Int} : Rg (k_dep A k s p t 3 1) := by have := k_dep_r (A := A) (k := k) (s := s) (p := p) (t := t) 3 1; constructor <;> omega
theorem L84 {d : Nat} (hd : 3 ≤ d) {Q : Option Value → xM → Prop} {W : gW} (hW : HW W) {A : Nat → Int → Int} {P : Nat → Int → Nat} (hR : RG A) (hT : Stat W P) (hG : GL W) (hp : LyC W P A) {p t : Int} (ht : 0 ≤ t ∧ t ≤ 210) (hp0 : 0 ≤ p ∧ p < 24) :
    ∀ (r : Nat) (m : Int), 1 ≤ m → m + r = 4 → Q (some (.int (iz (k_dep A (P 8 5 - 1) (P 8 7 - 1) p t r m)))) (Wm W A P) → wpE (xT 84) (xev xT d) Q (2, [(0, .ref (lo W 8)), (1, .int (iz p)), (2, .int (iz t)), (3, .int (iz m))], [], Wm W A P) := by
  intro r
  induction r with
  | zero =>
    intro m h1 hm hQ
    have e : k_dep A (P 8 5 - 1) (P 8 7 - 1) p t 0 m = 4 := by show m = 4; omega
    rw [e] at hQ
    exact V84_2 hd hW hR hT hG ⟨⟨by omega, by omega⟩, ⟨by omega, by omega⟩, ⟨by omega, by omega⟩⟩ ⟨fun _ => hQ, fun c => absurd (by omega) c⟩
  | succ r ih =>
    intro m h1 hm hQ
    have hb := ykl_b (A := A) (k := P 8 5 - 1) (p := p) (m := m) (by omega)
    unfold k_dep at hQ
    refine V84_2 hd hW hR hT hG ⟨⟨by omega, by omega⟩, ⟨by omega, by omega⟩, ⟨by omega, by omega⟩⟩ ⟨fun c => absurd c (by omega), fun _ => ⟨hp, by omega, fun c => ⟨⟨by omega, by omega⟩, ?_⟩, fun c => ⟨⟨by omega, by omega⟩, ⟨by omega, by omega⟩, fun c2 => ?_, fun c2 => ⟨⟨by omega, by omega⟩, ?_⟩⟩⟩⟩
    · rw [if_neg (fun q => c q.1)] at hQ; exact ih (m + 1) (by omega) (by omega) hQ
    · rw [if_pos ⟨c, c2⟩] at hQ; exact hQ
    · rw [if_neg (fun q => c2 q.2)] at hQ; exact ih (m + 1) (by omega) (by omega) hQ
theorem S84 {d : Nat} (hd : 4 ≤ d) {W : gW} (hW : HW W) {A : Nat → Int → Int} {P : Nat → Int → Nat} (hR : RG A) (hT : Stat W P) (hG : GL W) {x1 x2 : Int} (rr : Rg x1 ∧ Rg x2) (hp : (LyC W P A) ∧ (0 ≤ x1 ∧ x1 < 24) ∧ (0 ≤ x2 ∧ x2 ≤ 210)) : xev xT d 84 [.ref (lo W 8), .int (iz x1), .int (iz x2)] (Wm W A P) (some (.int (iz (k_dep A (P 8 5 - 1) (P 8 7 - 1) x1 x2 3 1)))) (Wm W A P) := by
  refine xev_i (D := 3) hd (Nat.le_of_ble_eq_true rfl) (fun d hd => V84_0 hd hW hR hT hG rr ?_)

  exact L84 (Q := fun r' s' => r' = some (.int (iz (k_dep A (P 8 5 - 1) (P 8 7 - 1) x1 x2 3 1))) ∧ s' = Wm W A P) hd hW hR hT hG hp.1 hp.2.2 hp.2.1 3 1 (by decide) (by decide) ⟨rfl, rfl⟩
