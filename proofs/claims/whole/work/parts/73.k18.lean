abbrev DGK (f : Int → Int) (p i : Int) : Prop := 48 ≤ f (p + i) ∧ f (p + i) ≤ 57 ∧ ¬ (f (p + i) = 48 ∧ i = 0)
def ndK (f : Int → Int) (p : Int) : Int := if ¬ DGK f p 0 then 0 else if ¬ DGK f p 1 then 1 else if ¬ DGK f p 2 then 2 else 3
theorem ndK_b {f : Int → Int} {p : Int} : 0 ≤ ndK f p ∧ ndK f p ≤ 3 := by unfold ndK; (repeat' split) <;> omega
def cvK (f : Int → Int) (p : Int) : Int := dv f p (ndK f p).toNat
theorem ndK_s {f : Int → Int} {p : Int} {i : Nat} (h : (i : Int) ≤ ndK f p) (h3 : i < 3) : (DGK f p i → ((i + 1 : Nat) : Int) ≤ ndK f p) ∧ (¬ DGK f p i → ndK f p = i) := by
  rcases (by omega : i = 0 ∨ i = 1 ∨ i = 2) with e | e | e
  · subst e
    refine ⟨fun q => ?_, fun q => ?_⟩
    · have q0 : DGK f p 0 := q
      unfold ndK
      rw [if_neg (not_not_intro q0)]
      (repeat' split) <;> omega
    · have q0 : ¬ DGK f p 0 := q
      unfold ndK
      rw [if_pos q0]; rfl
  · subst e
    have q0 : DGK f p 0 := by
      apply Classical.byContradiction
      intro z
      unfold ndK at h
      rw [if_pos z] at h
      omega
    refine ⟨fun q => ?_, fun q => ?_⟩
    · have q1 : DGK f p 1 := q
      unfold ndK
      rw [if_neg (not_not_intro q0), if_neg (not_not_intro q1)]
      (repeat' split) <;> omega
    · have q1 : ¬ DGK f p 1 := q
      unfold ndK
      rw [if_neg (not_not_intro q0), if_pos q1]; rfl
  · subst e
    have q0 : DGK f p 0 := by
      apply Classical.byContradiction
      intro z
      unfold ndK at h
      rw [if_pos z] at h
      omega
    have q1 : DGK f p 1 := by
      apply Classical.byContradiction
      intro z
      unfold ndK at h
      rw [if_neg (not_not_intro q0), if_pos z] at h
      omega
    refine ⟨fun q => ?_, fun q => ?_⟩
    · have q2 : DGK f p 2 := q
      unfold ndK
      rw [if_neg (not_not_intro q0), if_neg (not_not_intro q1), if_neg (not_not_intro q2)]
      decide
    · have q2 : ¬ DGK f p 2 := q
      unfold ndK
      rw [if_neg (not_not_intro q0), if_neg (not_not_intro q1), if_pos q2]; rfl
theorem dvK_b {f : Int → Int} {p : Int} {i : Nat} (h : (i : Int) ≤ ndK f p) : (i = 0 ∧ dv f p i = 0) ∨ (i = 1 ∧ 0 ≤ dv f p i ∧ dv f p i ≤ 9) ∨ (i = 2 ∧ 0 ≤ dv f p i ∧ dv f p i ≤ 99) ∨ (i = 3 ∧ 0 ≤ dv f p i ∧ dv f p i ≤ 999) := by
  induction i with
  | zero => exact Or.inl ⟨rfl, rfl⟩
  | succ i ih =>
    have hb := ndK_b (f := f) (p := p)
    have ih := ih (by omega)
    have hd : DGK f p i := by
      apply Classical.byContradiction
      intro z
      have := (ndK_s (f := f) (p := p) (i := i) (by omega) (by omega)).2 z
      omega
    have e : dv f p (i + 1) = 10 * dv f p i + f (p + i) - 48 := rfl
    have := hd.1
    have := hd.2.1
    omega
theorem cvK_b {f : Int → Int} {p : Int} : 0 ≤ cvK f p ∧ cvK f p ≤ 999 := by
  have hb := ndK_b (f := f) (p := p)
  have := dvK_b (f := f) (p := p) (i := (ndK f p).toNat) (by omega)
  unfold cvK
  omega
def perK (A : Nat → Int → Int) : Int → Int := fun i => A 5 i * (if ¬ A 3 3 = 0 ∧ 0 < i ∧ i < A 3 2 - 1 then 2 else 1)
theorem perK_b {A : Nat → Int → Int} (h : ∀ i : Int, 0 ≤ i → i < A 3 2 → 0 ≤ A 5 i ∧ A 5 i ≤ 999) {n : Nat} (hn : (n : Int) ≤ A 3 2) : 0 ≤ sm (perK A) n ∧ sm (perK A) n ≤ n * 1998 := by
  induction n with
  | zero => exact ⟨Int.le_refl 0, by show (0 : Int) ≤ 0 * 1998; decide⟩
  | succ n ih =>
    have ih := ih (by omega)
    have h1 := h n (by omega) (by omega)
    have e : sm (perK A) (n + 1) = sm (perK A) n + A 5 n * (if ¬ A 3 3 = 0 ∧ 0 < (n : Int) ∧ (n : Int) < A 3 2 - 1 then 2 else 1) := rfl
    rw [e]
    split <;> omega
theorem V40_0 {d : Nat} (hd : 1 ≤ d) {Q : Option Value → xM → Prop} {W : gW} (hW : HW W) {A : Nat → Int → Int} {P : Nat → Int → Nat} (hR : RG A) (hT : Stat W P) (hG : GL W) {x2 : Int} (rr : Rg x2) (h : wpE (xT 40) (xev xT d) Q (8, [(0, .ref (lo W 3)), (1, .ref (lo W 1)), (2, .int (iz x2)), (3, .int (iz 0)), (4, .int (iz 0)), (5, .int (iz 0))], [], Wm W A P)) : wpE (xT 40) (xev xT d) Q (0, [(0, .ref (lo W 3)), (1, .ref (lo W 1)), (2, .int (iz x2))], [], Wm W A P) := by
  refine i_push (n := 0) (cc3 c40_0) zl_0 ?_
  refine p_ist (ls' := [(3, .int (iz 0)), (0, .ref (lo W 3)), (1, .ref (lo W 1)), (2, .int (iz x2))]) (cc3 c40_1) (by decide) rfl ?_
  refine i_push (n := 0) (cc3 c40_2) zl_0 ?_
  refine p_ist (ls' := [(4, .int (iz 0)), (3, .int (iz 0)), (0, .ref (lo W 3)), (1, .ref (lo W 1)), (2, .int (iz x2))]) (cc3 c40_3) (by decide) rfl ?_
  refine i_push (n := 0) (cc3 c40_5) zl_0 ?_
  refine p_ist (ls' := [(5, .int (iz 0)), (4, .int (iz 0)), (3, .int (iz 0)), (0, .ref (lo W 3)), (1, .ref (lo W 1)), (2, .int (iz x2))]) (cc3 c40_6) (by decide) rfl ?_
  exact p_lc (ls' := [(0, .ref (lo W 3)), (1, .ref (lo W 1)), (2, .int (iz x2)), (3, .int (iz 0)), (4, .int (iz 0)), (5, .int (iz 0))]) c40_8 rfl rfl h
theorem V40_8 {d : Nat} (hd : 1 ≤ d) {Q : Option Value → xM → Prop} {W : gW} (hW : HW W) {A : Nat → Int → Int} {P : Nat → Int → Nat} (hR : RG A) (hT : Stat W P) (hG : GL W) {x2 x3 x4 x5 : Int} (rr : Rg x2 ∧ Rg x3 ∧ Rg x4 ∧ Rg x5) (h : (((3 ≤ x5) → (Rg ((A 3 2) - 1)) ∧ (0 ≤ ((A 3 2) - 1) ∧ ((A 3 2) - 1) < 10) ∧ Q (some (.int (iz x4))) (Wm W (UA A 5 ((A 3 2) - 1) x3) P)) ∧ (¬ (3 ≤ x5) → (Rg (x2 + x5)) ∧ ((((k_at A (x2 + x5)) < 48) → (Rg ((A 3 2) - 1)) ∧ (0 ≤ ((A 3 2) - 1) ∧ ((A 3 2) - 1) < 10) ∧ Q (some (.int (iz x4))) (Wm W (UA A 5 ((A 3 2) - 1) x3) P)) ∧ (¬ ((k_at A (x2 + x5)) < 48) → (((57 < (k_at A (x2 + x5))) → (Rg ((A 3 2) - 1)) ∧ (0 ≤ ((A 3 2) - 1) ∧ ((A 3 2) - 1) < 10) ∧ Q (some (.int (iz x4))) (Wm W (UA A 5 ((A 3 2) - 1) x3) P)) ∧ (¬ (57 < (k_at A (x2 + x5))) → ((((k_at A (x2 + x5)) = 48) → (((x5 = 0) → (Rg ((A 3 2) - 1)) ∧ (0 ≤ ((A 3 2) - 1) ∧ ((A 3 2) - 1) < 10) ∧ Q (some (.int (iz x4))) (Wm W (UA A 5 ((A 3 2) - 1) x3) P)) ∧ (¬ (x5 = 0) → (Rg (x3 * 10)) ∧ (Rg ((x3 * 10) + (k_at A (x2 + x5)))) ∧ (Rg (((x3 * 10) + (k_at A (x2 + x5))) - 48)) ∧ (Rg (x4 + 1)) ∧ (Rg (x5 + 1)) ∧ wpE (xT 40) (xev xT d) Q (8, [(0, .ref (lo W 3)), (1, .ref (lo W 1)), (2, .int (iz x2)), (3, .int (iz (((x3 * 10) + (k_at A (x2 + x5))) - 48))), (4, .int (iz (x4 + 1))), (5, .int (iz (x5 + 1)))], [], Wm W A P)))) ∧ (¬ ((k_at A (x2 + x5)) = 48) → (Rg (x3 * 10)) ∧ (Rg ((x3 * 10) + (k_at A (x2 + x5)))) ∧ (Rg (((x3 * 10) + (k_at A (x2 + x5))) - 48)) ∧ (Rg (x4 + 1)) ∧ (Rg (x5 + 1)) ∧ wpE (xT 40) (xev xT d) Q (8, [(0, .ref (lo W 3)), (1, .ref (lo W 1)), (2, .int (iz x2)), (3, .int (iz (((x3 * 10) + (k_at A (x2 + x5))) - 48))), (4, .int (iz (x4 + 1))), (5, .int (iz (x5 + 1)))], [], Wm W A P)))))))))) : wpE (xT 40) (xev xT d) Q (8, [(0, .ref (lo W 3)), (1, .ref (lo W 1)), (2, .int (iz x2)), (3, .int (iz x3)), (4, .int (iz x4)), (5, .int (iz x5))], [], Wm W A P) := by
  refine p_ild (cct c40_8 rfl) rfl ?_
  refine i_push (n := 3) (cc3 c40_10) zl_3 ?_
  refine i_icmp (c' := 3 ≤ x5) (cc3 c40_11) (iz_le (by decide : Rg (3 : Int)) rr.2.2.2) (fun c => ?_) (fun c => ?_)
  · have h := h.1 c
    refine p_lc (ls' := [(0, .ref (lo W 3)), (3, .int (iz x3)), (4, .int (iz x4))]) c40_73 rfl rfl ?_
    refine p_ald (cct c40_73 rfl) rfl ?_
    refine w_getp hW hT.1 (b := 5) (cc3 c40_74) (st_k hT 3 7 (by decide)) (ji := 1) rfl (st_p hT 3 1 5 (by decide)) ?_
    refine p_ald (cc3 c40_77) rfl ?_
    refine w_geti hW (v := A 3 2) (cc3 c40_78) (st_k hT 3 7 (by decide)) (ji := 2) rfl rfl ?_
    refine i_push (n := 1) (cc3 c40_81) zl_1 ?_
    obtain ⟨g1, h⟩ := h
    refine (fun _ : Rg ((A 3 2) - 1) => i_sub (cc3 c40_82) ?_) g1
    refine p_ild (cc3 c40_83) rfl ?_
    obtain ⟨g2, h⟩ := h
    refine id (α := Rg x3 → _) (fun _ => ?_) rr.2.1; refine w_asti hW (cc3 c40_84) (st_k hT 5 20 (by decide)) (st_i hT 5 10 (by decide) g2) rfl ?_
    refine p_ild (cc3 c40_85) rfl ?_
    exact p_ri (cc3 c40_87) trivial h
  · have h := h.2 c
    refine p_ald (cc3 c40_14) rfl ?_
    refine p_ild (cc3 c40_15) rfl ?_
    refine p_ild (cc3 c40_16) rfl ?_
    obtain ⟨g1, h⟩ := h
    refine (fun _ : Rg (x2 + x5) => i_add (cc3 c40_18) ?_) g1
    refine p_callV (cc3 c40_19) (Nat.le_of_ble_eq_true rfl) rfl rfl (Nat.le_of_ble_eq_true rfl) (wk_kd hW (by decide) (st_k hT 1 9 (by decide))) (S18 (Nat.le_trans (by decide) hd) hW hR hT hG g1) ?_
    refine p_ist (ls' := [(6, .int (iz (k_at A (x2 + x5)))), (0, .ref (lo W 3)), (1, .ref (lo W 1)), (2, .int (iz x2)), (3, .int (iz x3)), (4, .int (iz x4)), (5, .int (iz x5))]) (cc3 c40_22) (by decide) rfl ?_
    refine p_ild (cc3 c40_24) rfl ?_
    refine i_push (n := 48) (cc3 c40_26) zl_48 ?_
    refine i_icmp (c' := (k_at A (x2 + x5)) < 48) (cc3 c40_28) (iz_lt (rg_at hR) (by decide : Rg (48 : Int))) (fun c => ?_) (fun c => ?_)
    · have h := h.1 c
      refine p_lc (ls' := [(0, .ref (lo W 3)), (3, .int (iz x3)), (4, .int (iz x4))]) c40_73 rfl rfl ?_
      refine p_ald (cct c40_73 rfl) rfl ?_
      refine w_getp hW hT.1 (b := 5) (cc3 c40_74) (st_k hT 3 7 (by decide)) (ji := 1) rfl (st_p hT 3 1 5 (by decide)) ?_
      refine p_ald (cc3 c40_77) rfl ?_
      refine w_geti hW (v := A 3 2) (cc3 c40_78) (st_k hT 3 7 (by decide)) (ji := 2) rfl rfl ?_
      refine i_push (n := 1) (cc3 c40_81) zl_1 ?_
      obtain ⟨g2, h⟩ := h
      refine (fun _ : Rg ((A 3 2) - 1) => i_sub (cc3 c40_82) ?_) g2
      refine p_ild (cc3 c40_83) rfl ?_
      obtain ⟨g3, h⟩ := h
      refine id (α := Rg x3 → _) (fun _ => ?_) rr.2.1; refine w_asti hW (cc3 c40_84) (st_k hT 5 20 (by decide)) (st_i hT 5 10 (by decide) g3) rfl ?_
      refine p_ild (cc3 c40_85) rfl ?_
      exact p_ri (cc3 c40_87) trivial h
    · have h := h.2 c
      refine p_ild (cc3 c40_31) rfl ?_
      refine i_push (n := 57) (cc3 c40_33) zl_57 ?_
      refine i_icmp (c' := 57 < (k_at A (x2 + x5))) (cc3 c40_35) (iz_lt (by decide : Rg (57 : Int)) (rg_at hR)) (fun c => ?_) (fun c => ?_)
      · have h := h.1 c
        refine p_lc (ls' := [(0, .ref (lo W 3)), (3, .int (iz x3)), (4, .int (iz x4))]) c40_73 rfl rfl ?_
        refine p_ald (cct c40_73 rfl) rfl ?_
        refine w_getp hW hT.1 (b := 5) (cc3 c40_74) (st_k hT 3 7 (by decide)) (ji := 1) rfl (st_p hT 3 1 5 (by decide)) ?_
        refine p_ald (cc3 c40_77) rfl ?_
        refine w_geti hW (v := A 3 2) (cc3 c40_78) (st_k hT 3 7 (by decide)) (ji := 2) rfl rfl ?_
        refine i_push (n := 1) (cc3 c40_81) zl_1 ?_
        obtain ⟨g2, h⟩ := h
        refine (fun _ : Rg ((A 3 2) - 1) => i_sub (cc3 c40_82) ?_) g2
        refine p_ild (cc3 c40_83) rfl ?_
        obtain ⟨g3, h⟩ := h
        refine id (α := Rg x3 → _) (fun _ => ?_) rr.2.1; refine w_asti hW (cc3 c40_84) (st_k hT 5 20 (by decide)) (st_i hT 5 10 (by decide) g3) rfl ?_
        refine p_ild (cc3 c40_85) rfl ?_
        exact p_ri (cc3 c40_87) trivial h
      · have h := h.2 c
        refine p_ild (cc3 c40_38) rfl ?_
        refine i_push (n := 48) (cc3 c40_40) zl_48 ?_
        refine i_icmp (c' := (k_at A (x2 + x5)) = 48) (cc3 c40_42) (iz_inj (rg_at hR) (by decide : Rg (48 : Int))) (fun c => ?_) (fun c => ?_)
        · have h := h.1 c
          refine p_ild (cc3 c40_45) rfl ?_
          refine i_if (c' := x5 = 0) (cc3 c40_47) (c_eq0 rr.2.2.2) (fun c => ?_) (fun c => ?_)
          · have h := h.1 c
            refine p_goto (cc3 c40_50) ?_
            refine p_lc (ls' := [(0, .ref (lo W 3)), (3, .int (iz x3)), (4, .int (iz x4))]) c40_73 rfl rfl ?_
            refine p_ald (cct c40_73 rfl) rfl ?_
            refine w_getp hW hT.1 (b := 5) (cc3 c40_74) (st_k hT 3 7 (by decide)) (ji := 1) rfl (st_p hT 3 1 5 (by decide)) ?_
            refine p_ald (cc3 c40_77) rfl ?_
            refine w_geti hW (v := A 3 2) (cc3 c40_78) (st_k hT 3 7 (by decide)) (ji := 2) rfl rfl ?_
            refine i_push (n := 1) (cc3 c40_81) zl_1 ?_
            obtain ⟨g2, h⟩ := h
            refine (fun _ : Rg ((A 3 2) - 1) => i_sub (cc3 c40_82) ?_) g2
            refine p_ild (cc3 c40_83) rfl ?_
            obtain ⟨g3, h⟩ := h
            refine id (α := Rg x3 → _) (fun _ => ?_) rr.2.1; refine w_asti hW (cc3 c40_84) (st_k hT 5 20 (by decide)) (st_i hT 5 10 (by decide) g3) rfl ?_
            refine p_ild (cc3 c40_85) rfl ?_
            exact p_ri (cc3 c40_87) trivial h
          · have h := h.2 c
            refine p_lc (ls' := [(0, .ref (lo W 3)), (1, .ref (lo W 1)), (2, .int (iz x2)), (3, .int (iz x3)), (4, .int (iz x4)), (5, .int (iz x5)), (6, .int (iz (k_at A (x2 + x5))))]) c40_53 rfl rfl ?_
            refine p_ild (cct c40_53 rfl) rfl ?_
            refine i_push (n := 10) (cc3 c40_54) zl_10 ?_
            obtain ⟨g2, h⟩ := h
            refine (fun _ : Rg (x3 * 10) => i_mul (cc3 c40_56) ?_) g2
            refine p_ild (cc3 c40_57) rfl ?_
            obtain ⟨g3, h⟩ := h
            refine (fun _ : Rg ((x3 * 10) + (k_at A (x2 + x5))) => i_add (cc3 c40_59) ?_) g3
            refine i_push (n := 48) (cc3 c40_60) zl_48 ?_
            obtain ⟨g4, h⟩ := h
            refine (fun _ : Rg (((x3 * 10) + (k_at A (x2 + x5))) - 48) => i_sub (cc3 c40_62) ?_) g4
            refine p_ist (ls' := [(3, .int (iz (((x3 * 10) + (k_at A (x2 + x5))) - 48))), (0, .ref (lo W 3)), (1, .ref (lo W 1)), (2, .int (iz x2)), (4, .int (iz x4)), (5, .int (iz x5)), (6, .int (iz (k_at A (x2 + x5))))]) (cc3 c40_63) (by decide) rfl ?_
            obtain ⟨g5, h⟩ := h
            refine (fun _ : Rg (x4 + 1) => i_iinc (n := 1) (y := x4 + 1) (ls' := [(4, .int (iz (x4 + 1))), (3, .int (iz (((x3 * 10) + (k_at A (x2 + x5))) - 48))), (0, .ref (lo W 3)), (1, .ref (lo W 1)), (2, .int (iz x2)), (5, .int (iz x5)), (6, .int (iz (k_at A (x2 + x5))))]) (cc3 c40_64) (by decide) rfl zl_1 (by first | rfl | omega) rfl ?_) g5
            obtain ⟨g6, h⟩ := h
            refine (fun _ : Rg (x5 + 1) => i_iinc (n := 1) (y := x5 + 1) (ls' := [(5, .int (iz (x5 + 1))), (4, .int (iz (x4 + 1))), (3, .int (iz (((x3 * 10) + (k_at A (x2 + x5))) - 48))), (0, .ref (lo W 3)), (1, .ref (lo W 1)), (2, .int (iz x2)), (6, .int (iz (k_at A (x2 + x5))))]) (cc3 c40_67) (by decide) rfl zl_1 (by first | rfl | omega) rfl ?_) g6
            refine p_goto (cc3 c40_70) ?_
            exact p_lc (ls' := [(0, .ref (lo W 3)), (1, .ref (lo W 1)), (2, .int (iz x2)), (3, .int (iz (((x3 * 10) + (k_at A (x2 + x5))) - 48))), (4, .int (iz (x4 + 1))), (5, .int (iz (x5 + 1)))]) c40_8 rfl rfl h
        · have h := h.2 c
          refine p_lc (ls' := [(0, .ref (lo W 3)), (1, .ref (lo W 1)), (2, .int (iz x2)), (3, .int (iz x3)), (4, .int (iz x4)), (5, .int (iz x5)), (6, .int (iz (k_at A (x2 + x5))))]) c40_53 rfl rfl ?_
          refine p_ild (cct c40_53 rfl) rfl ?_
          refine i_push (n := 10) (cc3 c40_54) zl_10 ?_
          obtain ⟨g2, h⟩ := h
          refine (fun _ : Rg (x3 * 10) => i_mul (cc3 c40_56) ?_) g2
          refine p_ild (cc3 c40_57) rfl ?_
          obtain ⟨g3, h⟩ := h
          refine (fun _ : Rg ((x3 * 10) + (k_at A (x2 + x5))) => i_add (cc3 c40_59) ?_) g3
          refine i_push (n := 48) (cc3 c40_60) zl_48 ?_
          obtain ⟨g4, h⟩ := h
          refine (fun _ : Rg (((x3 * 10) + (k_at A (x2 + x5))) - 48) => i_sub (cc3 c40_62) ?_) g4
          refine p_ist (ls' := [(3, .int (iz (((x3 * 10) + (k_at A (x2 + x5))) - 48))), (0, .ref (lo W 3)), (1, .ref (lo W 1)), (2, .int (iz x2)), (4, .int (iz x4)), (5, .int (iz x5)), (6, .int (iz (k_at A (x2 + x5))))]) (cc3 c40_63) (by decide) rfl ?_
          obtain ⟨g5, h⟩ := h
          refine (fun _ : Rg (x4 + 1) => i_iinc (n := 1) (y := x4 + 1) (ls' := [(4, .int (iz (x4 + 1))), (3, .int (iz (((x3 * 10) + (k_at A (x2 + x5))) - 48))), (0, .ref (lo W 3)), (1, .ref (lo W 1)), (2, .int (iz x2)), (5, .int (iz x5)), (6, .int (iz (k_at A (x2 + x5))))]) (cc3 c40_64) (by decide) rfl zl_1 (by first | rfl | omega) rfl ?_) g5
          obtain ⟨g6, h⟩ := h
          refine (fun _ : Rg (x5 + 1) => i_iinc (n := 1) (y := x5 + 1) (ls' := [(5, .int (iz (x5 + 1))), (4, .int (iz (x4 + 1))), (3, .int (iz (((x3 * 10) + (k_at A (x2 + x5))) - 48))), (0, .ref (lo W 3)), (1, .ref (lo W 1)), (2, .int (iz x2)), (6, .int (iz (k_at A (x2 + x5))))]) (cc3 c40_67) (by decide) rfl zl_1 (by first | rfl | omega) rfl ?_) g6
          refine p_goto (cc3 c40_70) ?_
          exact p_lc (ls' := [(0, .ref (lo W 3)), (1, .ref (lo W 1)), (2, .int (iz x2)), (3, .int (iz (((x3 * 10) + (k_at A (x2 + x5))) - 48))), (4, .int (iz (x4 + 1))), (5, .int (iz (x5 + 1)))]) c40_8 rfl rfl h

theorem rg_ndK {f : Int → Int} {p : Int} : Rg (ndK f p) := by have := ndK_b (f := f) (p := p); constructor <;> omega
theorem rg_cvK {A : Nat → Int → Int} {p x : Int} (h : RG A) : RG (UA A 5 x (cvK (k_at A) p)) := rg_UA h (by have := cvK_b (f := k_at A) (p := p); constructor <;> omega)
theorem L40 {d : Nat} (hd : 1 ≤ d) {Q : Option Value → xM → Prop} {W : gW} (hW : HW W) {A : Nat → Int → Int} {P : Nat → Int → Nat} (hR : RG A) (hT : Stat W P) (hG : GL W) (hs : 1 ≤ A 3 2 ∧ A 3 2 ≤ 10) {p : Int} (hp : 0 ≤ p ∧ p ≤ 100000)
    (hQ : Q (some (.int (iz (ndK (k_at A) p)))) (Wm W (UA A 5 (A 3 2 - 1) (cvK (k_at A) p)) P)) :
    ∀ (r i : Nat), i + r = 3 → (i : Int) ≤ ndK (k_at A) p → wpE (xT 40) (xev xT d) Q (8, [(0, .ref (lo W 3)), (1, .ref (lo W 1)), (2, .int (iz p)), (3, .int (iz (dv (k_at A) p i))), (4, .int (iz i)), (5, .int (iz i))], [], Wm W A P) := by
  have hb := ndK_b (f := k_at A) (p := p)
  have k9 : gK W 1 = 9 := st_k hT 1 9 (by decide)
  have out : ∀ i : Nat, ndK (k_at A) p = i → (Rg ((A 3 2) - 1)) ∧ (0 ≤ ((A 3 2) - 1) ∧ ((A 3 2) - 1) < 10) ∧ Q (some (.int (iz i))) (Wm W (UA A 5 ((A 3 2) - 1) (dv (k_at A) p i)) P) := fun i e => by
    have q := hQ
    unfold cvK at q
    rw [e, Int.toNat_natCast] at q
    exact ⟨⟨by omega, by omega⟩, ⟨by omega, by omega⟩, q⟩
  intro r
  induction r with
  | zero =>
    intro i hi hn
    have e3 : i = 3 := hi
    have hv := dvK_b hn
    exact V40_8 hd hW hR hT hG ⟨⟨by omega, by omega⟩, ⟨by omega, by omega⟩, ⟨by omega, by omega⟩, ⟨by omega, by omega⟩⟩ ⟨fun _ => out i (by omega), fun z => absurd (by omega) z⟩
  | succ r ih =>
    intro i hi hn
    have hv := dvK_b hn
    have hs2 := ndK_s hn (by omega)
    have cont : DGK (k_at A) p i → (Rg (dv (k_at A) p i * 10)) ∧ (Rg ((dv (k_at A) p i * 10) + (k_at A (p + i)))) ∧ (Rg (((dv (k_at A) p i * 10) + (k_at A (p + i))) - 48)) ∧ (Rg ((i : Int) + 1)) ∧ (Rg ((i : Int) + 1)) ∧ wpE (xT 40) (xev xT d) Q (8, [(0, .ref (lo W 3)), (1, .ref (lo W 1)), (2, .int (iz p)), (3, .int (iz (((dv (k_at A) p i * 10) + (k_at A (p + i))) - 48))), (4, .int (iz ((i : Int) + 1))), (5, .int (iz ((i : Int) + 1)))], [], Wm W A P) := fun q => by
      have := ih (i + 1) (by omega) (hs2.1 q)
      have e : dv (k_at A) p (i + 1) = dv (k_at A) p i * 10 + k_at A (p + i) - 48 := by
        show 10 * dv (k_at A) p i + k_at A (p + i) - 48 = _
        omega
      rw [e] at this
      have q1 := q.1
      have q2 := q.2.1
      exact ⟨⟨by omega, by omega⟩, ⟨by omega, by omega⟩, ⟨by omega, by omega⟩, ⟨by omega, by omega⟩, ⟨by omega, by omega⟩, this⟩
    refine V40_8 hd hW hR hT hG ⟨⟨by omega, by omega⟩, ⟨by omega, by omega⟩, ⟨by omega, by omega⟩, ⟨by omega, by omega⟩⟩ ⟨fun z => absurd z (by omega), fun _ => ⟨⟨by omega, by omega⟩, fun c => out i (hs2.2 (fun q => by have := q.1; omega)), fun c => ⟨fun c2 => out i (hs2.2 (fun q => by have := q.2.1; omega)), fun c2 => ⟨fun c3 => ⟨fun c4 => out i (hs2.2 (fun q => q.2.2 ⟨c3, c4⟩)), fun c4 => cont ⟨by omega, by omega, fun q => c4 q.2⟩⟩, fun c3 => cont ⟨by omega, by omega, fun q => c3 q.1⟩⟩⟩⟩⟩
theorem S40 {d : Nat} (hd : 2 ≤ d) {W : gW} (hW : HW W) {A : Nat → Int → Int} {P : Nat → Int → Nat} (hR : RG A) (hT : Stat W P) (hG : GL W) {x2 : Int} (rr : Rg x2) (hp : (1 ≤ A 3 2 ∧ A 3 2 ≤ 10) ∧ (0 ≤ x2 ∧ x2 ≤ 100000)) : xev xT d 40 [.ref (lo W 3), .ref (lo W 1), .int (iz x2)] (Wm W A P) (some (.int (iz (ndK (k_at A) x2)))) (Wm W (UA A 5 (A 3 2 - 1) (cvK (k_at A) x2)) P) := by
  refine xev_i (D := 1) hd (Nat.le_of_ble_eq_true rfl) (fun d hd => V40_0 hd hW hR hT hG rr ?_)

  obtain ⟨p1, p2⟩ := hp
  exact L40 (Q := fun r' s' => r' = some (.int (iz (ndK (k_at A) x2))) ∧ s' = Wm W (UA A 5 (A 3 2 - 1) (cvK (k_at A) x2)) P) hd hW hR hT hG p1 p2 ⟨rfl, rfl⟩ 3 0 rfl ndK_b.1
theorem V41_0 {d : Nat} (hd : 0 ≤ d) {Q : Option Value → xM → Prop} {W : gW} (hW : HW W) {A : Nat → Int → Int} {P : Nat → Int → Nat} (hR : RG A) (hT : Stat W P) (hG : GL W) (h : wpE (xT 41) (xev xT d) Q (4, [(0, .ref (lo W 3)), (1, .int (iz 0)), (2, .int (iz 0))], [], Wm W A P)) : wpE (xT 41) (xev xT d) Q (0, [(0, .ref (lo W 3))], [], Wm W A P) := by
  refine i_push (n := 0) (cc3 c41_0) zl_0 ?_
  refine p_ist (ls' := [(1, .int (iz 0)), (0, .ref (lo W 3))]) (cc3 c41_1) (by decide) rfl ?_
  refine i_push (n := 0) (cc3 c41_2) zl_0 ?_
  refine p_ist (ls' := [(2, .int (iz 0)), (1, .int (iz 0)), (0, .ref (lo W 3))]) (cc3 c41_3) (by decide) rfl ?_
  exact p_lc (ls' := [(0, .ref (lo W 3)), (1, .int (iz 0)), (2, .int (iz 0))]) c41_4 rfl rfl h
theorem V41_4 {d : Nat} (hd : 0 ≤ d) {Q : Option Value → xM → Prop} {W : gW} (hW : HW W) {A : Nat → Int → Int} {P : Nat → Int → Nat} (hR : RG A) (hT : Stat W P) (hG : GL W) {x1 x2 : Int} (rr : Rg x1 ∧ Rg x2) (h : ((((A 3 2) ≤ x2) → Q (some (.int (iz x1))) (Wm W A P)) ∧ (¬ ((A 3 2) ≤ x2) → (((10 ≤ x2) → Q (some (.int (iz x1))) (Wm W A P)) ∧ (¬ (10 ≤ x2) → ((((A 3 3) = 0) → (0 ≤ x2 ∧ x2 < 10) ∧ (Rg (x1 + (A 5 x2))) ∧ (Rg (x2 + 1)) ∧ wpE (xT 41) (xev xT d) Q (4, [(0, .ref (lo W 3)), (1, .int (iz (x1 + (A 5 x2)))), (2, .int (iz (x2 + 1)))], [], Wm W A P)) ∧ (¬ ((A 3 3) = 0) → (((x2 ≤ 0) → (0 ≤ x2 ∧ x2 < 10) ∧ (Rg (x1 + (A 5 x2))) ∧ (Rg (x2 + 1)) ∧ wpE (xT 41) (xev xT d) Q (4, [(0, .ref (lo W 3)), (1, .int (iz (x1 + (A 5 x2)))), (2, .int (iz (x2 + 1)))], [], Wm W A P)) ∧ (¬ (x2 ≤ 0) → (Rg ((A 3 2) - 1)) ∧ (((((A 3 2) - 1) ≤ x2) → (0 ≤ x2 ∧ x2 < 10) ∧ (Rg (x1 + (A 5 x2))) ∧ (Rg (x2 + 1)) ∧ wpE (xT 41) (xev xT d) Q (4, [(0, .ref (lo W 3)), (1, .int (iz (x1 + (A 5 x2)))), (2, .int (iz (x2 + 1)))], [], Wm W A P)) ∧ (¬ (((A 3 2) - 1) ≤ x2) → (0 ≤ x2 ∧ x2 < 10) ∧ (Rg (2 * (A 5 x2))) ∧ (Rg (x1 + (2 * (A 5 x2)))) ∧ (Rg (x2 + 1)) ∧ wpE (xT 41) (xev xT d) Q (4, [(0, .ref (lo W 3)), (1, .int (iz (x1 + (2 * (A 5 x2))))), (2, .int (iz (x2 + 1)))], [], Wm W A P)))))))))))) : wpE (xT 41) (xev xT d) Q (4, [(0, .ref (lo W 3)), (1, .int (iz x1)), (2, .int (iz x2))], [], Wm W A P) := by
  refine p_ild (cct c41_4 rfl) rfl ?_
  refine p_ald (cc3 c41_5) rfl ?_
  refine w_geti hW (v := A 3 2) (cc3 c41_6) (st_k hT 3 7 (by decide)) (ji := 2) rfl rfl ?_
  refine i_icmp (c' := (A 3 2) ≤ x2) (cc3 c41_9) (iz_le (hR 3 2) rr.2) (fun c => ?_) (fun c => ?_)
  · have h := h.1 c
    refine p_lc (ls' := [(1, .int (iz x1))]) c41_75 rfl rfl ?_
    refine p_ild (cct c41_75 rfl) rfl ?_
    exact p_ri (cc3 c41_76) trivial h
  · have h := h.2 c
    refine p_ild (cc3 c41_12) rfl ?_
    refine i_push (n := 10) (cc3 c41_13) zl_10 ?_
    refine i_icmp (c' := 10 ≤ x2) (cc3 c41_15) (iz_le (by decide : Rg (10 : Int)) rr.2) (fun c => ?_) (fun c => ?_)
    · have h := h.1 c
      refine p_lc (ls' := [(1, .int (iz x1))]) c41_75 rfl rfl ?_
      refine p_ild (cct c41_75 rfl) rfl ?_
      exact p_ri (cc3 c41_76) trivial h
    · have h := h.2 c
      refine p_ald (cc3 c41_18) rfl ?_
      refine w_geti hW (v := A 3 3) (cc3 c41_19) (st_k hT 3 7 (by decide)) (ji := 3) rfl rfl ?_
      refine i_if (c' := (A 3 3) = 0) (cc3 c41_22) (c_eq0 (hR 3 3)) (fun c => ?_) (fun c => ?_)
      · have h := h.1 c
        refine i_push (n := 0) (cct c41_43 rfl) zl_0 ?_
        refine p_ist (ls' := [(3, .int (iz 0)), (0, .ref (lo W 3)), (1, .int (iz x1)), (2, .int (iz x2))]) (cct c41_44 rfl) (by decide) rfl ?_
        refine p_ild (cc3 c41_45) rfl ?_
        refine p_ild (cc3 c41_46) rfl ?_
        refine i_if (c' := (0 : Int) = 0) (cc3 c41_47) (c_eq0 (by decide : Rg (0 : Int))) (fun c => ?_) (fun c => ?_)
        · skip
          refine p_ald (cc3 c41_61) rfl ?_
          refine w_getp hW hT.1 (b := 5) (cc3 c41_62) (st_k hT 3 7 (by decide)) (ji := 1) rfl (st_p hT 3 1 5 (by decide)) ?_
          refine p_ild (cc3 c41_65) rfl ?_
          obtain ⟨g1, h⟩ := h
          refine w_aldi hW (v := A 5 x2) (cc3 c41_66) (st_k hT 5 20 (by decide)) (st_i hT 5 10 (by decide) g1) rfl ?_
          refine p_lc (ls' := [(0, .ref (lo W 3)), (2, .int (iz x2))]) c41_67 rfl rfl ?_
          obtain ⟨g2, h⟩ := h
          refine (fun _ : Rg (x1 + (A 5 x2)) => i_add (cct c41_67 rfl) ?_) g2
          refine p_ist (ls' := [(1, .int (iz (x1 + (A 5 x2)))), (0, .ref (lo W 3)), (2, .int (iz x2))]) (cc3 c41_68) (by decide) rfl ?_
          obtain ⟨g3, h⟩ := h
          refine (fun _ : Rg (x2 + 1) => i_iinc (n := 1) (y := x2 + 1) (ls' := [(2, .int (iz (x2 + 1))), (1, .int (iz (x1 + (A 5 x2)))), (0, .ref (lo W 3))]) (cc3 c41_69) (by decide) rfl zl_1 (by first | rfl | omega) rfl ?_) g3
          refine p_goto (cc3 c41_72) ?_
          exact p_lc (ls' := [(0, .ref (lo W 3)), (1, .int (iz (x1 + (A 5 x2)))), (2, .int (iz (x2 + 1)))]) c41_4 rfl rfl h
        · exact absurd (by decide) c
      · have h := h.2 c
        refine p_ild (cc3 c41_25) rfl ?_
        refine i_if (c' := x2 ≤ 0) (cc3 c41_26) (c_le0 rr.2) (fun c => ?_) (fun c => ?_)
        · have h := h.1 c
          refine i_push (n := 0) (cct c41_43 rfl) zl_0 ?_
          refine p_ist (ls' := [(3, .int (iz 0)), (0, .ref (lo W 3)), (1, .int (iz x1)), (2, .int (iz x2))]) (cct c41_44 rfl) (by decide) rfl ?_
          refine p_ild (cc3 c41_45) rfl ?_
          refine p_ild (cc3 c41_46) rfl ?_
          refine i_if (c' := (0 : Int) = 0) (cc3 c41_47) (c_eq0 (by decide : Rg (0 : Int))) (fun c => ?_) (fun c => ?_)
          · skip
            refine p_ald (cc3 c41_61) rfl ?_
            refine w_getp hW hT.1 (b := 5) (cc3 c41_62) (st_k hT 3 7 (by decide)) (ji := 1) rfl (st_p hT 3 1 5 (by decide)) ?_
            refine p_ild (cc3 c41_65) rfl ?_
            obtain ⟨g1, h⟩ := h
            refine w_aldi hW (v := A 5 x2) (cc3 c41_66) (st_k hT 5 20 (by decide)) (st_i hT 5 10 (by decide) g1) rfl ?_
            refine p_lc (ls' := [(0, .ref (lo W 3)), (2, .int (iz x2))]) c41_67 rfl rfl ?_
            obtain ⟨g2, h⟩ := h
            refine (fun _ : Rg (x1 + (A 5 x2)) => i_add (cct c41_67 rfl) ?_) g2
            refine p_ist (ls' := [(1, .int (iz (x1 + (A 5 x2)))), (0, .ref (lo W 3)), (2, .int (iz x2))]) (cc3 c41_68) (by decide) rfl ?_
            obtain ⟨g3, h⟩ := h
            refine (fun _ : Rg (x2 + 1) => i_iinc (n := 1) (y := x2 + 1) (ls' := [(2, .int (iz (x2 + 1))), (1, .int (iz (x1 + (A 5 x2)))), (0, .ref (lo W 3))]) (cc3 c41_69) (by decide) rfl zl_1 (by first | rfl | omega) rfl ?_) g3
            refine p_goto (cc3 c41_72) ?_
            exact p_lc (ls' := [(0, .ref (lo W 3)), (1, .int (iz (x1 + (A 5 x2)))), (2, .int (iz (x2 + 1)))]) c41_4 rfl rfl h
          · exact absurd (by decide) c
        · have h := h.2 c
          refine p_ild (cc3 c41_29) rfl ?_
          refine p_ald (cc3 c41_30) rfl ?_
          refine w_geti hW (v := A 3 2) (cc3 c41_31) (st_k hT 3 7 (by decide)) (ji := 2) rfl rfl ?_
          refine i_push (n := 1) (cc3 c41_34) zl_1 ?_
          obtain ⟨g1, h⟩ := h
          refine (fun _ : Rg ((A 3 2) - 1) => i_sub (cc3 c41_35) ?_) g1
          refine i_icmp (c' := ((A 3 2) - 1) ≤ x2) (cc3 c41_36) (iz_le g1 rr.2) (fun c => ?_) (fun c => ?_)
          · have h := h.1 c
            refine i_push (n := 0) (cct c41_43 rfl) zl_0 ?_
            refine p_ist (ls' := [(3, .int (iz 0)), (0, .ref (lo W 3)), (1, .int (iz x1)), (2, .int (iz x2))]) (cct c41_44 rfl) (by decide) rfl ?_
            refine p_ild (cc3 c41_45) rfl ?_
            refine p_ild (cc3 c41_46) rfl ?_
            refine i_if (c' := (0 : Int) = 0) (cc3 c41_47) (c_eq0 (by decide : Rg (0 : Int))) (fun c => ?_) (fun c => ?_)
            · skip
              refine p_ald (cc3 c41_61) rfl ?_
              refine w_getp hW hT.1 (b := 5) (cc3 c41_62) (st_k hT 3 7 (by decide)) (ji := 1) rfl (st_p hT 3 1 5 (by decide)) ?_
              refine p_ild (cc3 c41_65) rfl ?_
              obtain ⟨g2, h⟩ := h
              refine w_aldi hW (v := A 5 x2) (cc3 c41_66) (st_k hT 5 20 (by decide)) (st_i hT 5 10 (by decide) g2) rfl ?_
              refine p_lc (ls' := [(0, .ref (lo W 3)), (2, .int (iz x2))]) c41_67 rfl rfl ?_
              obtain ⟨g3, h⟩ := h
              refine (fun _ : Rg (x1 + (A 5 x2)) => i_add (cct c41_67 rfl) ?_) g3
              refine p_ist (ls' := [(1, .int (iz (x1 + (A 5 x2)))), (0, .ref (lo W 3)), (2, .int (iz x2))]) (cc3 c41_68) (by decide) rfl ?_
              obtain ⟨g4, h⟩ := h
              refine (fun _ : Rg (x2 + 1) => i_iinc (n := 1) (y := x2 + 1) (ls' := [(2, .int (iz (x2 + 1))), (1, .int (iz (x1 + (A 5 x2)))), (0, .ref (lo W 3))]) (cc3 c41_69) (by decide) rfl zl_1 (by first | rfl | omega) rfl ?_) g4
              refine p_goto (cc3 c41_72) ?_
              exact p_lc (ls' := [(0, .ref (lo W 3)), (1, .int (iz (x1 + (A 5 x2)))), (2, .int (iz (x2 + 1)))]) c41_4 rfl rfl h
            · exact absurd (by decide) c
          · have h := h.2 c
            refine i_push (n := 1) (cc3 c41_39) zl_1 ?_
            refine p_goto (cc3 c41_40) ?_
            refine p_ist (ls' := [(3, .int (iz 1)), (0, .ref (lo W 3)), (1, .int (iz x1)), (2, .int (iz x2))]) (cct c41_44 rfl) (by decide) rfl ?_
            refine p_ild (cc3 c41_45) rfl ?_
            refine p_ild (cc3 c41_46) rfl ?_
            refine i_if (c' := (1 : Int) = 0) (cc3 c41_47) (c_eq0 (by decide : Rg (1 : Int))) (fun c => ?_) (fun c => ?_)
            · exact absurd c (by decide)
            · skip
              refine i_push (n := 2) (cc3 c41_50) zl_2 ?_
              refine p_ald (cc3 c41_51) rfl ?_
              refine w_getp hW hT.1 (b := 5) (cc3 c41_52) (st_k hT 3 7 (by decide)) (ji := 1) rfl (st_p hT 3 1 5 (by decide)) ?_
              refine p_ild (cc3 c41_55) rfl ?_
              obtain ⟨g2, h⟩ := h
              refine w_aldi hW (v := A 5 x2) (cc3 c41_56) (st_k hT 5 20 (by decide)) (st_i hT 5 10 (by decide) g2) rfl ?_
              obtain ⟨g3, h⟩ := h
              refine (fun _ : Rg (2 * (A 5 x2)) => i_mul (cc3 c41_57) ?_) g3
              refine p_goto (cc3 c41_58) ?_
              refine p_lc (ls' := [(0, .ref (lo W 3)), (2, .int (iz x2))]) c41_67 rfl rfl ?_
              obtain ⟨g4, h⟩ := h
              refine (fun _ : Rg (x1 + (2 * (A 5 x2))) => i_add (cct c41_67 rfl) ?_) g4
              refine p_ist (ls' := [(1, .int (iz (x1 + (2 * (A 5 x2))))), (0, .ref (lo W 3)), (2, .int (iz x2))]) (cc3 c41_68) (by decide) rfl ?_
              obtain ⟨g5, h⟩ := h
              refine (fun _ : Rg (x2 + 1) => i_iinc (n := 1) (y := x2 + 1) (ls' := [(2, .int (iz (x2 + 1))), (1, .int (iz (x1 + (2 * (A 5 x2))))), (0, .ref (lo W 3))]) (cc3 c41_69) (by decide) rfl zl_1 (by first | rfl | omega) rfl ?_) g5
              refine p_goto (cc3 c41_72) ?_
              exact p_lc (ls' := [(0, .ref (lo W 3)), (1, .int (iz (x1 + (2 * (A 5 x2))))), (2, .int (iz (x2 + 1)))]) c41_4 rfl rfl h

theorem rg_per {A : Nat → Int → Int} (h : (1 ≤ A 3 2 ∧ A 3 2 ≤ 10) ∧ ∀ i : Int, 0 ≤ i → i < A 3 2 → 0 ≤ A 5 i ∧ A 5 i ≤ 999) : Rg (sm (perK A) (A 3 2).toNat) := by
  have := perK_b h.2 (n := (A 3 2).toNat) (by omega)
  constructor <;> omega
theorem L41 {d : Nat} (hd : 0 ≤ d) {Q : Option Value → xM → Prop} {W : gW} (hW : HW W) {A : Nat → Int → Int} {P : Nat → Int → Nat} (hR : RG A) (hT : Stat W P) (hG : GL W) (hs : 1 ≤ A 3 2 ∧ A 3 2 ≤ 10) (hc : ∀ i : Int, 0 ≤ i → i < A 3 2 → 0 ≤ A 5 i ∧ A 5 i ≤ 999)
    (hQ : Q (some (.int (iz (sm (perK A) (A 3 2).toNat)))) (Wm W A P)) :
    ∀ (r k : Nat), k + r = (A 3 2).toNat → wpE (xT 41) (xev xT d) Q (4, [(0, .ref (lo W 3)), (1, .int (iz (sm (perK A) k))), (2, .int (iz k))], [], Wm W A P) := by
  intro r
  induction r with
  | zero =>
    intro k hk
    have e : k = (A 3 2).toNat := hk
    have hb := perK_b hc (n := k) (by omega)
    rw [← e] at hQ
    exact V41_4 hd hW hR hT hG ⟨⟨by omega, by omega⟩, ⟨by omega, by omega⟩⟩ ⟨fun _ => hQ, fun z => absurd (by omega) z⟩
  | succ r ih =>
    intro k hk
    have hb := perK_b hc (n := k) (by omega)
    have h5 := hc k (by omega) (by omega)
    have := ih (k + 1) (by omega)
    have e : sm (perK A) (k + 1) = sm (perK A) k + A 5 k * (if ¬ A 3 3 = 0 ∧ 0 < (k : Int) ∧ (k : Int) < A 3 2 - 1 then 2 else 1) := rfl
    rw [e] at this
    have one : ¬ (¬ A 3 3 = 0 ∧ 0 < (k : Int) ∧ (k : Int) < A 3 2 - 1) → (0 ≤ (k : Int) ∧ (k : Int) < 10) ∧ (Rg (sm (perK A) k + (A 5 k))) ∧ (Rg ((k : Int) + 1)) ∧ wpE (xT 41) (xev xT d) Q (4, [(0, .ref (lo W 3)), (1, .int (iz (sm (perK A) k + (A 5 k)))), (2, .int (iz ((k : Int) + 1)))], [], Wm W A P) := fun q => by
      rw [if_neg q, Int.mul_one] at this
      exact ⟨⟨by omega, by omega⟩, ⟨by omega, by omega⟩, ⟨by omega, by omega⟩, this⟩
    refine V41_4 hd hW hR hT hG ⟨⟨by omega, by omega⟩, ⟨by omega, by omega⟩⟩ ⟨fun z => absurd z (by omega), fun _ => ⟨fun z => absurd z (by omega), fun _ => ⟨fun c => one (fun q => q.1 c), fun c => ⟨fun c2 => one (fun q => by omega), fun c2 => ⟨⟨by omega, by omega⟩, fun c3 => one (fun q => by omega), fun c3 => ?_⟩⟩⟩⟩⟩
    rw [if_pos ⟨c, by omega, by omega⟩, Int.mul_comm] at this
    exact ⟨⟨by omega, by omega⟩, ⟨by omega, by omega⟩, ⟨by omega, by omega⟩, ⟨by omega, by omega⟩, this⟩
theorem S41 {d : Nat} (hd : 1 ≤ d) {W : gW} (hW : HW W) {A : Nat → Int → Int} {P : Nat → Int → Nat} (hR : RG A) (hT : Stat W P) (hG : GL W) (hp : (1 ≤ A 3 2 ∧ A 3 2 ≤ 10) ∧ (∀ i : Int, 0 ≤ i → i < A 3 2 → 0 ≤ A 5 i ∧ A 5 i ≤ 999)) : xev xT d 41 [.ref (lo W 3)] (Wm W A P) (some (.int (iz (sm (perK A) (A 3 2).toNat)))) (Wm W A P) := by
  refine xev_i (D := 0) hd (Nat.le_of_ble_eq_true rfl) (fun d hd => V41_0 hd hW hR hT hG ?_)

  exact L41 (Q := fun r' s' => r' = some (.int (iz (sm (perK A) (A 3 2).toNat))) ∧ s' = Wm W A P) hd hW hR hT hG hp.1 hp.2 ⟨rfl, rfl⟩ (A 3 2).toNat 0 (Nat.zero_add _)
