/-- what the LAYER works on: the KILT P 8 5 - 1, the BOLT P 8 6 - 1, the SETT P 8 7 - 1 -/
def LyC (W : gW) (P : Nat → Int → Nat) (A : Nat → Int → Int) : Prop := (¬ P 8 5 = 0 ∧ ¬ P 8 6 = 0 ∧ ¬ P 8 7 = 0) ∧ OKi W P A (P 8 5 - 1) ∧ OBt W P A (P 8 6 - 1) ∧ OSt W P A (P 8 7 - 1) ∧ (29 ≤ P 8 5 - 1 ∧ 29 ≤ P 8 6 - 1 ∧ 29 ≤ P 8 7 - 1)
def ykw (A : Nat → Int → Int) (k : Nat) (p : Int) : Int := if A k 9 = 0 ∨ (A k 0 = 5 ∧ p = A k 4 - 2) then A k 6 else 0
def ykl (A : Nat → Int → Int) (k : Nat) (p m : Int) : Int := if A k 0 = 2 then m + 1 else if A k 0 = 4 then 2 * m + 1 else if A k 0 = 3 then m + m % 2 else if A k 0 = 5 then (if p = A k 4 - 2 then m else m + m % 2) else m
theorem ykl_b {A : Nat → Int → Int} {k : Nat} {p m : Int} (h : 1 ≤ m ∧ m ≤ 4) : 1 ≤ ykl A k p m ∧ ykl A k p m ≤ 9 := by unfold ykl; (repeat' split) <;> omega
theorem ykw_b {W : gW} {P : Nat → Int → Nat} {A : Nat → Int → Int} {k : Nat} {p : Int} (h : OKi W P A k) : 0 ≤ ykw A k p ∧ ykw A k p ≤ 300 := by
  have := h.2.2.2.2.2.2.1
  unfold ykw; split <;> omega
theorem rg_ykl {W : gW} {P : Nat → Int → Nat} {A : Nat → Int → Int} {k : Nat} {p m : Int} (h : LyC W P A ∧ (1 ≤ m ∧ m ≤ 4)) : Rg (ykl A k p m) := by have := ykl_b (A := A) (k := k) (p := p) h.2; constructor <;> omega
theorem rg_ykw {W : gW} {P : Nat → Int → Nat} {A : Nat → Int → Int} {p : Int} (h : LyC W P A) : Rg (ykw A (P 8 5 - 1) p) := by have := ykw_b (p := p) h.2.1; constructor <;> omega
theorem pd_b {W : gW} {P : Nat → Int → Nat} {A : Nat → Int → Int} (h : LyC W P A) {x : Int} (hx : 0 ≤ x ∧ x ≤ 1000) : 0 ≤ x * A (P 8 7 - 1) 1 ∧ x * A (P 8 7 - 1) 1 ≤ 400000 := by
  have := h.2.2.2.1.2.2.1.2.1
  exact mul_b (M := 1000) (N := 400) hx.1 hx.2 (by omega) this.2
theorem rg_usd {W : gW} {P : Nat → Int → Nat} {A : Nat → Int → Int} {x : Int} (h : LyC W P A ∧ (0 ≤ A 8 3 ∧ A 8 3 ≤ 100000) ∧ (0 ≤ x ∧ x ≤ 1000)) : Rg (A 8 3 + x * A (P 8 7 - 1) 1 + A (P 8 5 - 1) 7) := by
  have := pd_b h.1 h.2.2
  have := h.1.2.1.2.2.2.2.2.2.2.1
  constructor <;> omega
def k_kept (A : Nat → Int → Int) (k t : Int) : Int := if (0 ≤ k ∧ k < 24) ∧ (0 ≤ t ∧ t < 211) then A 9 (k * 211 + t) else -1
theorem rg_kept {A : Nat → Int → Int} (h : RG A) {k t : Int} : Rg (k_kept A k t) := rg_ite (h _ _) (by decide)
def k_fct (A : Nat → Int → Int) (k : Nat) : Int → Int := fun j => if j = 0 then A (k + 1) 4 else if j = 1 then A k 4 else if j = 2 then A k 2 else if j = 3 then A k 3 else if j = 4 then A k 13 else A k 0
theorem rg_fct {A : Nat → Int → Int} (h : RG A) {k : Nat} {j : Int} : Rg (k_fct A k j) := by unfold k_fct; (repeat' split) <;> exact h _ _
def k_fill (A : Nat → Int → Int) (a : Nat) (v n : Int) : Nat → Int → Int := fun c j => if c = a ∧ 0 ≤ j ∧ j < n then v else A c j
theorem rg_fill {A : Nat → Int → Int} (h : RG A) {a : Nat} {v n : Int} (hv : Rg v) : RG (k_fill A a v n) := fun c j => rg_ite hv (h c j)
theorem fill_s {A : Nat → Int → Int} {a : Nat} {v n : Int} (hn : 0 ≤ n) : UA (k_fill A a v n) a n v = k_fill A a v (n + 1) := by
  funext c j
  unfold UA k_fill
  by_cases e : c = a ∧ j = n
  · rw [if_pos e, if_pos ⟨e.1, by omega, by omega⟩]
  · rw [if_neg e]
    by_cases e2 : c = a ∧ 0 ≤ j ∧ j < n
    · rw [if_pos e2, if_pos ⟨e2.1, e2.2.1, by omega⟩]
    · rw [if_neg e2, if_neg (fun q => e ⟨q.1, by
        apply Classical.byContradiction; intro z; exact e2 ⟨q.1, q.2.1, by omega⟩⟩)]
theorem fill_0 {A : Nat → Int → Int} {a : Nat} {v : Int} : k_fill A a v 0 = A := by
  funext c j
  unfold k_fill
  rw [if_neg (by omega)]
/-- a TEXT at role a: fitFrom 2, top 3; code a + 1, stack a + 2 -/
def OTx (W : gW) (P : Nat → Int → Nat) (a : Nat) : Prop := (gK W a = 10 ∧ gK W (a + 1) = 20 ∧ gK W (a + 2) = 20) ∧ (P a 0 = (a + 1) + 1 ∧ P a 1 = (a + 2) + 1) ∧ ((gL W (a + 1) : Int) ≤ 160 ∧ (gL W (a + 2) : Int) ≤ 160)
def OSh (W : gW) (P : Nat → Int → Nat) (a : Nat) : Prop := (gK W a = 8 ∧ gK W (a + 1) = 20) ∧ P a 0 = (a + 1) + 1 ∧ gL W (a + 1) = 40
theorem V74_0 {d : Nat} (hd : 0 ≤ d) {Q : Option Value → xM → Prop} {W : gW} (hW : HW W) {A : Nat → Int → Int} {P : Nat → Int → Nat} (hR : RG A) (hT : Stat W P) (hG : GL W) {x1 : Int} (rr : Rg x1) (h : (¬ P 8 5 = 0) ∧ (gK W (P 8 5 - 1) = 3) ∧ ((((A (P 8 5 - 1) 0) = 5) → (Rg ((A (P 8 5 - 1) 4) - 2)) ∧ (((x1 = ((A (P 8 5 - 1) 4) - 2)) → Q (some (.int (iz 1))) (Wm W A P)) ∧ (¬ (x1 = ((A (P 8 5 - 1) 4) - 2)) → Q (some (.int (iz 0))) (Wm W A P)))) ∧ (¬ ((A (P 8 5 - 1) 0) = 5) → Q (some (.int (iz 0))) (Wm W A P)))) : wpE (xT 74) (xev xT d) Q (0, [(0, .ref (lo W 8)), (1, .int (iz x1))], [], Wm W A P) := by
  refine p_ald (cc3 c74_0) rfl ?_
  obtain ⟨g1, h⟩ := h
  refine w_getp0 hW hT.1 (cc3 c74_1) (st_k hT 8 4 (by decide)) (ji := 5) rfl g1 ?_
  obtain ⟨g2, h⟩ := h
  refine w_geti hW (v := A (P 8 5 - 1) 0) (cc3 c74_4) g2 (ji := 0) rfl rfl ?_
  refine i_push (n := 5) (cc3 c74_7) zl_5 ?_
  refine i_icmp (c' := (A (P 8 5 - 1) 0) = 5) (cc3 c74_8) (iz_inj (hR (P 8 5 - 1) 0) (by decide : Rg (5 : Int))) (fun c => ?_) (fun c => ?_)
  · have h := h.1 c
    refine p_ild (cc3 c74_11) rfl ?_
    refine p_ald (cc3 c74_12) rfl ?_
    refine w_getp0 hW hT.1 (cc3 c74_13) (st_k hT 8 4 (by decide)) (ji := 5) rfl g1 ?_
    refine w_geti hW (v := A (P 8 5 - 1) 4) (cc3 c74_16) g2 (ji := 4) rfl rfl ?_
    refine i_push (n := 2) (cc3 c74_19) zl_2 ?_
    obtain ⟨g3, h⟩ := h
    refine (fun _ : Rg ((A (P 8 5 - 1) 4) - 2) => i_sub (cc3 c74_20) ?_) g3
    refine i_icmp (c' := x1 = ((A (P 8 5 - 1) 4) - 2)) (cc3 c74_21) (iz_inj rr g3) (fun c => ?_) (fun c => ?_)
    · have h := h.1 c
      refine i_push (n := 1) (cc3 c74_24) zl_1 ?_
      refine p_goto (cc3 c74_25) ?_
      refine p_lc (ls' := []) c74_29 rfl rfl ?_
      exact i_ri (cct c74_29 rfl) (by decide) h
    · have h := h.2 c
      refine p_lc (ls' := []) c74_28 rfl rfl ?_
      refine i_push (n := 0) (cct c74_28 rfl) zl_0 ?_
      exact i_ri (cct c74_29 rfl) (by decide) h
  · have h := h.2 c
    refine p_lc (ls' := []) c74_28 rfl rfl ?_
    refine i_push (n := 0) (cct c74_28 rfl) zl_0 ?_
    exact i_ri (cct c74_29 rfl) (by decide) h
theorem S74 {d : Nat} (hd : 1 ≤ d) {W : gW} (hW : HW W) {A : Nat → Int → Int} {P : Nat → Int → Nat} (hR : RG A) (hT : Stat W P) (hG : GL W) {x1 : Int} (rr : Rg x1) (hp : (LyC W P A)) : xev xT d 74 [.ref (lo W 8), .int (iz x1)] (Wm W A P) (some (.int (iz (bI (A (P 8 5 - 1) 0 = 5 ∧ x1 = A (P 8 5 - 1) 4 - 2))))) (Wm W A P) := by
  refine xev_i (D := 0) hd (Nat.le_of_ble_eq_true rfl) (fun d hd => V74_0 hd hW hR hT hG rr ?_)

  obtain ⟨⟨n5, n6, n7⟩, hk, -⟩ := hp
  obtain ⟨k1, k2, k3, h4, -⟩ := hk
  exact ⟨n5, k1, fun c => ⟨⟨by omega, by omega⟩, fun c2 => ⟨vq (bI_t ⟨c, c2⟩).symm, rfl⟩, fun c2 => ⟨vq (bI_f (fun q => c2 q.2)).symm, rfl⟩⟩, fun c => ⟨vq (bI_f (fun q => c q.1)).symm, rfl⟩⟩
theorem V73_0 {d : Nat} (hd : 1 ≤ d) {Q : Option Value → xM → Prop} {W : gW} (hW : HW W) {A : Nat → Int → Int} {P : Nat → Int → Nat} (hR : RG A) (hT : Stat W P) (hG : GL W) {x1 : Int} (rr : Rg x1) (h : (¬ P 8 5 = 0) ∧ (gK W (P 8 5 - 1) = 3) ∧ ((((A (P 8 5 - 1) 9) = 0) → Q (some (.int (iz (A (P 8 5 - 1) 6)))) (Wm W A P)) ∧ (¬ ((A (P 8 5 - 1) 9) = 0) → (LyC W P A) ∧ ((¬ (A (P 8 5 - 1) 0 = 5 ∧ x1 = A (P 8 5 - 1) 4 - 2) → Q (some (.int (iz 0))) (Wm W A P)) ∧ ((A (P 8 5 - 1) 0 = 5 ∧ x1 = A (P 8 5 - 1) 4 - 2) → Q (some (.int (iz (A (P 8 5 - 1) 6)))) (Wm W A P)))))) : wpE (xT 73) (xev xT d) Q (0, [(0, .ref (lo W 8)), (1, .int (iz x1))], [], Wm W A P) := by
  refine p_ald (cc3 c73_0) rfl ?_
  obtain ⟨g1, h⟩ := h
  refine w_getp0 hW hT.1 (cc3 c73_1) (st_k hT 8 4 (by decide)) (ji := 5) rfl g1 ?_
  obtain ⟨g2, h⟩ := h
  refine w_geti hW (v := A (P 8 5 - 1) 9) (cc3 c73_4) g2 (ji := 9) rfl rfl ?_
  refine i_if (c' := (A (P 8 5 - 1) 9) = 0) (cc3 c73_7) (c_eq0 (hR (P 8 5 - 1) 9)) (fun c => ?_) (fun c => ?_)
  · have h := h.1 c
    refine p_lc (ls' := [(0, .ref (lo W 8))]) c73_22 rfl rfl ?_
    refine p_ald (cct c73_22 rfl) rfl ?_
    refine w_getp0 hW hT.1 (cc3 c73_23) (st_k hT 8 4 (by decide)) (ji := 5) rfl g1 ?_
    refine w_geti hW (v := A (P 8 5 - 1) 6) (cc3 c73_26) g2 (ji := 6) rfl rfl ?_
    refine p_lc (ls' := []) c73_29 rfl rfl ?_
    exact p_ri (cct c73_29 rfl) trivial h
  · have h := h.2 c
    refine p_ald (cc3 c73_10) rfl ?_
    refine p_ild (cc3 c73_11) rfl ?_
    obtain ⟨g3, h⟩ := h
    refine p_callV (cc3 c73_12) (Nat.le_of_ble_eq_true rfl) rfl rfl (Nat.le_of_ble_eq_true rfl) (wk_kd hW (by decide) (st_k hT 8 4 (by decide))) (S74 (Nat.le_trans (by decide) hd) hW hR hT hG rr g3) ?_
    refine i_ifB (cc3 c73_15) (fun c => ?_) (fun c => ?_)
    · have h := h.1 c
      refine i_push (n := 0) (cc3 c73_18) zl_0 ?_
      refine p_goto (cc3 c73_19) ?_
      refine p_lc (ls' := []) c73_29 rfl rfl ?_
      exact p_ri (cct c73_29 rfl) trivial h
    · have h := h.2 c
      refine p_lc (ls' := [(0, .ref (lo W 8))]) c73_22 rfl rfl ?_
      refine p_ald (cct c73_22 rfl) rfl ?_
      refine w_getp0 hW hT.1 (cc3 c73_23) (st_k hT 8 4 (by decide)) (ji := 5) rfl g1 ?_
      refine w_geti hW (v := A (P 8 5 - 1) 6) (cc3 c73_26) g2 (ji := 6) rfl rfl ?_
      refine p_lc (ls' := []) c73_29 rfl rfl ?_
      exact p_ri (cct c73_29 rfl) trivial h
theorem S73 {d : Nat} (hd : 2 ≤ d) {W : gW} (hW : HW W) {A : Nat → Int → Int} {P : Nat → Int → Nat} (hR : RG A) (hT : Stat W P) (hG : GL W) {x1 : Int} (rr : Rg x1) (hp : (LyC W P A)) : xev xT d 73 [.ref (lo W 8), .int (iz x1)] (Wm W A P) (some (.int (iz (ykw A (P 8 5 - 1) x1)))) (Wm W A P) := by
  refine xev_i (D := 1) hd (Nat.le_of_ble_eq_true rfl) (fun d hd => V73_0 hd hW hR hT hG rr ?_)

  have hk := hp.2.1
  exact ⟨hp.1.1, hk.1, fun c => ⟨vq (by unfold ykw; rw [if_pos (Or.inl c)]), rfl⟩, fun c => ⟨hp, fun c2 => ⟨vq (by unfold ykw; rw [if_neg (by rintro (q | q); exact c q; exact c2 q)]), rfl⟩, fun c2 => ⟨vq (by unfold ykw; rw [if_pos (Or.inr c2)]), rfl⟩⟩⟩
theorem V75_0 {d : Nat} (hd : 1 ≤ d) {Q : Option Value → xM → Prop} {W : gW} (hW : HW W) {A : Nat → Int → Int} {P : Nat → Int → Nat} (hR : RG A) (hT : Stat W P) (hG : GL W) {x1 x2 : Int} (rr : Rg x1 ∧ Rg x2) (h : (¬ P 8 5 = 0) ∧ (gK W (P 8 5 - 1) = 3) ∧ ((((A (P 8 5 - 1) 0) = 2) → (Rg (x2 + 1)) ∧ Q (some (.int (iz (x2 + 1)))) (Wm W A P)) ∧ (¬ ((A (P 8 5 - 1) 0) = 2) → (((A (P 8 5 - 1) 0) = 3) → (Rg (x2 + (x2.tmod 2))) ∧ Q (some (.int (iz (x2 + (x2.tmod 2))))) (Wm W A P)) ∧ (¬ ((A (P 8 5 - 1) 0) = 3) → (((A (P 8 5 - 1) 0) = 4) → (Rg (2 * x2)) ∧ (Rg ((2 * x2) + 1)) ∧ Q (some (.int (iz ((2 * x2) + 1)))) (Wm W A P)) ∧ (¬ ((A (P 8 5 - 1) 0) = 4) → (((A (P 8 5 - 1) 0) = 5) → (LyC W P A) ∧ ((¬ (A (P 8 5 - 1) 0 = 5 ∧ x1 = A (P 8 5 - 1) 4 - 2) → (Rg (x2 + (x2.tmod 2))) ∧ Q (some (.int (iz (x2 + (x2.tmod 2))))) (Wm W A P)) ∧ ((A (P 8 5 - 1) 0 = 5 ∧ x1 = A (P 8 5 - 1) 4 - 2) → Q (some (.int (iz x2))) (Wm W A P)))) ∧ (¬ ((A (P 8 5 - 1) 0) = 5) → Q (some (.int (iz x2))) (Wm W A P))))))) : wpE (xT 75) (xev xT d) Q (0, [(0, .ref (lo W 8)), (1, .int (iz x1)), (2, .int (iz x2))], [], Wm W A P) := by
  refine p_ald (cc3 c75_0) rfl ?_
  obtain ⟨g1, h⟩ := h
  refine w_getp0 hW hT.1 (cc3 c75_1) (st_k hT 8 4 (by decide)) (ji := 5) rfl g1 ?_
  obtain ⟨g2, h⟩ := h
  refine w_geti hW (v := A (P 8 5 - 1) 0) (cc3 c75_4) g2 (ji := 0) rfl rfl ?_
  refine (fun _ : Rg (A (P 8 5 - 1) 0) => p_sw (cc3 c75_7) ?_) (hR (P 8 5 - 1) 0)
  refine sw_c (n := 2) (hR (P 8 5 - 1) 0) zl_2 (by decide) (fun c => ?_) (fun c => ?_)
  · have h := h.1 c
    refine p_ild (cc3 c75_36) rfl ?_
    refine i_push (n := 1) (cc3 c75_37) zl_1 ?_
    obtain ⟨g3, h⟩ := h
    refine (fun _ : Rg (x2 + 1) => i_add (cc3 c75_38) ?_) g3
    exact p_ri (cc3 c75_39) trivial h
  · have h := h.2 c
    refine sw_c (n := 3) (hR (P 8 5 - 1) 0) zl_3 (by decide) (fun c => ?_) (fun c => ?_)
    · have h := h.1 c
      refine p_ild (cc3 c75_46) rfl ?_
      refine p_ild (cc3 c75_47) rfl ?_
      refine i_push (n := 2) (cc3 c75_48) zl_2 ?_
      refine i_rem (cc3 c75_49) rr.2 (by decide) ?_
      obtain ⟨g3, h⟩ := h
      refine (fun _ : Rg (x2 + (x2.tmod 2)) => i_add (cc3 c75_50) ?_) g3
      exact p_ri (cc3 c75_51) trivial h
    · have h := h.2 c
      refine sw_c (n := 4) (hR (P 8 5 - 1) 0) zl_4 (by decide) (fun c => ?_) (fun c => ?_)
      · have h := h.1 c
        refine i_push (n := 2) (cc3 c75_40) zl_2 ?_
        refine p_ild (cc3 c75_41) rfl ?_
        obtain ⟨g3, h⟩ := h
        refine (fun _ : Rg (2 * x2) => i_mul (cc3 c75_42) ?_) g3
        refine i_push (n := 1) (cc3 c75_43) zl_1 ?_
        obtain ⟨g4, h⟩ := h
        refine (fun _ : Rg ((2 * x2) + 1) => i_add (cc3 c75_44) ?_) g4
        exact p_ri (cc3 c75_45) trivial h
      · have h := h.2 c
        refine sw_c (n := 5) (hR (P 8 5 - 1) 0) zl_5 (by decide) (fun c => ?_) (fun c => ?_)
        · have h := h.1 c
          refine p_ald (cc3 c75_52) rfl ?_
          refine p_ild (cc3 c75_53) rfl ?_
          obtain ⟨g3, h⟩ := h
          refine p_callV (cc3 c75_54) (Nat.le_of_ble_eq_true rfl) rfl rfl (Nat.le_of_ble_eq_true rfl) (wk_kd hW (by decide) (st_k hT 8 4 (by decide))) (S74 (Nat.le_trans (by decide) hd) hW hR hT hG rr.1 g3) ?_
          refine i_ifB (cc3 c75_57) (fun c => ?_) (fun c => ?_)
          · have h := h.1 c
            refine p_ild (cc3 c75_64) rfl ?_
            refine p_ild (cc3 c75_65) rfl ?_
            refine i_push (n := 2) (cc3 c75_66) zl_2 ?_
            refine i_rem (cc3 c75_67) rr.2 (by decide) ?_
            obtain ⟨g4, h⟩ := h
            refine (fun _ : Rg (x2 + (x2.tmod 2)) => i_add (cc3 c75_68) ?_) g4
            refine p_lc (ls' := []) c75_69 rfl rfl ?_
            exact p_ri (cct c75_69 rfl) trivial h
          · have h := h.2 c
            refine p_ild (cc3 c75_60) rfl ?_
            refine p_goto (cc3 c75_61) ?_
            refine p_lc (ls' := []) c75_69 rfl rfl ?_
            exact p_ri (cct c75_69 rfl) trivial h
        · have h := h.2 c
          refine sw_d ?_
          refine p_ild (cc3 c75_70) rfl ?_
          exact p_ri (cc3 c75_71) trivial h
theorem S75 {d : Nat} (hd : 2 ≤ d) {W : gW} (hW : HW W) {A : Nat → Int → Int} {P : Nat → Int → Nat} (hR : RG A) (hT : Stat W P) (hG : GL W) {x1 x2 : Int} (rr : Rg x1 ∧ Rg x2) (hp : (LyC W P A) ∧ (1 ≤ x2 ∧ x2 ≤ 4)) : xev xT d 75 [.ref (lo W 8), .int (iz x1), .int (iz x2)] (Wm W A P) (some (.int (iz (ykl A (P 8 5 - 1) x1 x2)))) (Wm W A P) := by
  refine xev_i (D := 1) hd (Nat.le_of_ble_eq_true rfl) (fun d hd => V75_0 hd hW hR hT hG rr ?_)

  obtain ⟨p1, p2⟩ := hp
  have hk := p1.2.1
  have e := tmod_pos (x := x2) (y := 2) (by omega)
  refine ⟨p1.1.1, hk.1, fun c => ⟨⟨by omega, by omega⟩, vq (by unfold ykl; rw [if_pos c]), rfl⟩, fun c => ⟨fun c2 => ⟨by rw [e]; exact ⟨by omega, by omega⟩, vq (by unfold ykl; rw [if_neg c, if_neg (by omega), if_pos c2, e]), rfl⟩, fun c2 => ⟨fun c3 => ⟨⟨by omega, by omega⟩, ⟨by omega, by omega⟩, vq (by unfold ykl; rw [if_neg c, if_pos c3]), rfl⟩, fun c3 => ⟨fun c4 => ⟨p1, fun c5 => ⟨by rw [e]; exact ⟨by omega, by omega⟩, vq (by unfold ykl; rw [if_neg c, if_neg c3, if_neg c2, if_pos c4, if_neg (fun q => c5 ⟨c4, q⟩), e]), rfl⟩, fun c5 => ⟨vq (by unfold ykl; rw [if_neg c, if_neg c3, if_neg c2, if_pos c4, if_pos c5.2]), rfl⟩⟩, fun c4 => ⟨vq (by unfold ykl; rw [if_neg c, if_neg c3, if_neg c2, if_neg c4]), rfl⟩⟩⟩⟩⟩
theorem V79_0 {d : Nat} (hd : 2 ≤ d) {Q : Option Value → xM → Prop} {W : gW} (hW : HW W) {A : Nat → Int → Int} {P : Nat → Int → Nat} (hR : RG A) (hT : Stat W P) (hG : GL W) {x1 x2 : Int} (rr : Rg x1 ∧ Rg x2) (h : (LyC W P A) ∧ (1 ≤ x2 ∧ x2 ≤ 4) ∧ (¬ P 8 7 = 0) ∧ (gK W (P 8 7 - 1) = 6) ∧ (Rg ((ykl A (P 8 5 - 1) x1 x2) * (A (P 8 7 - 1) 1))) ∧ (Rg ((ykw A (P 8 5 - 1) x1) + ((ykl A (P 8 5 - 1) x1 x2) * (A (P 8 7 - 1) 1)))) ∧ (¬ P 8 5 = 0) ∧ (gK W (P 8 5 - 1) = 3) ∧ (((((ykw A (P 8 5 - 1) x1) + ((ykl A (P 8 5 - 1) x1 x2) * (A (P 8 7 - 1) 1))) ≤ (A (P 8 5 - 1) 6)) → Q (some (.int (iz 0))) (Wm W A P)) ∧ (¬ (((ykw A (P 8 5 - 1) x1) + ((ykl A (P 8 5 - 1) x1 x2) * (A (P 8 7 - 1) 1))) ≤ (A (P 8 5 - 1) 6)) → Q (some (.int (iz 1))) (Wm W A P)))) : wpE (xT 79) (xev xT d) Q (0, [(0, .ref (lo W 8)), (1, .int (iz x1)), (2, .int (iz x2))], [], Wm W A P) := by
  refine p_ald (cc3 c79_0) rfl ?_
  refine p_ild (cc3 c79_1) rfl ?_
  obtain ⟨g1, h⟩ := h
  refine p_callV (cc3 c79_2) (Nat.le_of_ble_eq_true rfl) rfl rfl (Nat.le_of_ble_eq_true rfl) (wk_kd hW (by decide) (st_k hT 8 4 (by decide))) (S73 (Nat.le_trans (by decide) hd) hW hR hT hG rr.1 g1) ?_
  refine p_ald (cc3 c79_5) rfl ?_
  refine p_ild (cc3 c79_6) rfl ?_
  refine p_ild (cc3 c79_7) rfl ?_
  obtain ⟨g2, h⟩ := h
  refine p_callV (cc3 c79_8) (Nat.le_of_ble_eq_true rfl) rfl rfl (Nat.le_of_ble_eq_true rfl) (wk_kd hW (by decide) (st_k hT 8 4 (by decide))) (S75 (Nat.le_trans (by decide) hd) hW hR hT hG ⟨rr.1, rr.2⟩ ⟨g1, g2⟩) ?_
  refine p_ald (cc3 c79_11) rfl ?_
  obtain ⟨g3, h⟩ := h
  refine w_getp0 hW hT.1 (cc3 c79_12) (st_k hT 8 4 (by decide)) (ji := 7) rfl g3 ?_
  obtain ⟨g4, h⟩ := h
  refine w_geti hW (v := A (P 8 7 - 1) 1) (cc3 c79_15) g4 (ji := 1) rfl rfl ?_
  obtain ⟨g5, h⟩ := h
  refine (fun _ : Rg ((ykl A (P 8 5 - 1) x1 x2) * (A (P 8 7 - 1) 1)) => i_mul (cc3 c79_18) ?_) g5
  obtain ⟨g6, h⟩ := h
  refine (fun _ : Rg ((ykw A (P 8 5 - 1) x1) + ((ykl A (P 8 5 - 1) x1 x2) * (A (P 8 7 - 1) 1))) => i_add (cc3 c79_19) ?_) g6
  refine p_ald (cc3 c79_20) rfl ?_
  obtain ⟨g7, h⟩ := h
  refine w_getp0 hW hT.1 (cc3 c79_21) (st_k hT 8 4 (by decide)) (ji := 5) rfl g7 ?_
  obtain ⟨g8, h⟩ := h
  refine w_geti hW (v := A (P 8 5 - 1) 6) (cc3 c79_24) g8 (ji := 6) rfl rfl ?_
  refine i_icmp (c' := ((ykw A (P 8 5 - 1) x1) + ((ykl A (P 8 5 - 1) x1 x2) * (A (P 8 7 - 1) 1))) ≤ (A (P 8 5 - 1) 6)) (cc3 c79_27) (iz_le g6 (hR (P 8 5 - 1) 6)) (fun c => ?_) (fun c => ?_)
  · have h := h.1 c
    refine i_push (n := 0) (cc3 c79_34) zl_0 ?_
    refine p_lc (ls' := []) c79_35 rfl rfl ?_
    exact i_ri (cct c79_35 rfl) (by decide) h
  · have h := h.2 c
    refine i_push (n := 1) (cc3 c79_30) zl_1 ?_
    refine p_goto (cc3 c79_31) ?_
    refine p_lc (ls' := []) c79_35 rfl rfl ?_
    exact i_ri (cct c79_35 rfl) (by decide) h
theorem S79 {d : Nat} (hd : 3 ≤ d) {W : gW} (hW : HW W) {A : Nat → Int → Int} {P : Nat → Int → Nat} (hR : RG A) (hT : Stat W P) (hG : GL W) {x1 x2 : Int} (rr : Rg x1 ∧ Rg x2) (hp : (LyC W P A) ∧ (1 ≤ x2 ∧ x2 ≤ 4)) : xev xT d 79 [.ref (lo W 8), .int (iz x1), .int (iz x2)] (Wm W A P) (some (.int (iz (bI (A (P 8 5 - 1) 6 < ykw A (P 8 5 - 1) x1 + ykl A (P 8 5 - 1) x1 x2 * A (P 8 7 - 1) 1))))) (Wm W A P) := by
  refine xev_i (D := 2) hd (Nat.le_of_ble_eq_true rfl) (fun d hd => V79_0 hd hW hR hT hG rr ?_)

  obtain ⟨p1, p2⟩ := hp
  have b1 := ykl_b (A := A) (k := P 8 5 - 1) (p := x1) p2
  have b2 := ykw_b (p := x1) p1.2.1
  have b3 := pd_b p1 (x := ykl A (P 8 5 - 1) x1 x2) (by omega)
  exact ⟨p1, p2, p1.1.2.2, p1.2.2.2.1.1.1, ⟨by omega, by omega⟩, ⟨by omega, by omega⟩, p1.1.1, p1.2.1.1, fun c => ⟨vq (bI_f (by omega)).symm, rfl⟩, fun c => ⟨vq (bI_t (by omega)).symm, rfl⟩⟩
theorem V77_0 {d : Nat} (hd : 0 ≤ d) {Q : Option Value → xM → Prop} {W : gW} (hW : HW W) {A : Nat → Int → Int} {P : Nat → Int → Nat} (hR : RG A) (hT : Stat W P) (hG : GL W) {x1 : Int} (rr : Rg x1) (h : (¬ P 8 7 = 0) ∧ (gK W (P 8 7 - 1) = 6) ∧ (Rg (x1 * (A (P 8 7 - 1) 1))) ∧ (Rg ((A 8 3) + (x1 * (A (P 8 7 - 1) 1)))) ∧ (¬ P 8 5 = 0) ∧ (gK W (P 8 5 - 1) = 3) ∧ (Rg (((A 8 3) + (x1 * (A (P 8 7 - 1) 1))) + (A (P 8 5 - 1) 7))) ∧ Q (some (.int (iz (((A 8 3) + (x1 * (A (P 8 7 - 1) 1))) + (A (P 8 5 - 1) 7))))) (Wm W A P)) : wpE (xT 77) (xev xT d) Q (0, [(0, .ref (lo W 8)), (1, .int (iz x1))], [], Wm W A P) := by
  refine p_ald (cc3 c77_0) rfl ?_
  refine w_geti hW (v := A 8 3) (cc3 c77_1) (st_k hT 8 4 (by decide)) (ji := 3) rfl rfl ?_
  refine p_ild (cc3 c77_4) rfl ?_
  refine p_ald (cc3 c77_5) rfl ?_
  obtain ⟨g1, h⟩ := h
  refine w_getp0 hW hT.1 (cc3 c77_6) (st_k hT 8 4 (by decide)) (ji := 7) rfl g1 ?_
  obtain ⟨g2, h⟩ := h
  refine w_geti hW (v := A (P 8 7 - 1) 1) (cc3 c77_9) g2 (ji := 1) rfl rfl ?_
  obtain ⟨g3, h⟩ := h
  refine (fun _ : Rg (x1 * (A (P 8 7 - 1) 1)) => i_mul (cc3 c77_12) ?_) g3
  obtain ⟨g4, h⟩ := h
  refine (fun _ : Rg ((A 8 3) + (x1 * (A (P 8 7 - 1) 1))) => i_add (cc3 c77_13) ?_) g4
  refine p_ald (cc3 c77_14) rfl ?_
  obtain ⟨g5, h⟩ := h
  refine w_getp0 hW hT.1 (cc3 c77_15) (st_k hT 8 4 (by decide)) (ji := 5) rfl g5 ?_
  obtain ⟨g6, h⟩ := h
  refine w_geti hW (v := A (P 8 5 - 1) 7) (cc3 c77_18) g6 (ji := 7) rfl rfl ?_
  obtain ⟨g7, h⟩ := h
  refine (fun _ : Rg (((A 8 3) + (x1 * (A (P 8 7 - 1) 1))) + (A (P 8 5 - 1) 7)) => i_add (cc3 c77_21) ?_) g7
  exact p_ri (cc3 c77_22) trivial h
theorem S77 {d : Nat} (hd : 1 ≤ d) {W : gW} (hW : HW W) {A : Nat → Int → Int} {P : Nat → Int → Nat} (hR : RG A) (hT : Stat W P) (hG : GL W) {x1 : Int} (rr : Rg x1) (hp : (LyC W P A) ∧ (0 ≤ A 8 3 ∧ A 8 3 ≤ 100000) ∧ (0 ≤ x1 ∧ x1 ≤ 1000)) : xev xT d 77 [.ref (lo W 8), .int (iz x1)] (Wm W A P) (some (.int (iz (A 8 3 + x1 * A (P 8 7 - 1) 1 + A (P 8 5 - 1) 7)))) (Wm W A P) := by
  refine xev_i (D := 0) hd (Nat.le_of_ble_eq_true rfl) (fun d hd => V77_0 hd hW hR hT hG rr ?_)

  have h9 := rg_usd hp
  obtain ⟨p1, p2, p3⟩ := hp
  have b3 := pd_b p1 p3
  exact ⟨p1.1.2.2, p1.2.2.2.1.1.1, ⟨by omega, by omega⟩, ⟨by omega, by omega⟩, p1.1.1, p1.2.1.1, h9, rfl, rfl⟩
theorem V78_0 {d : Nat} (hd : 1 ≤ d) {Q : Option Value → xM → Prop} {W : gW} (hW : HW W) {A : Nat → Int → Int} {P : Nat → Int → Nat} (hR : RG A) (hT : Stat W P) (hG : GL W) {x1 : Int} (rr : Rg x1) (h : (LyC W P A) ∧ (0 ≤ A 8 3 ∧ A 8 3 ≤ 100000) ∧ (0 ≤ x1 ∧ x1 ≤ 1000) ∧ (¬ P 8 6 = 0) ∧ (gK W (P 8 6 - 1) = 1) ∧ ((((A (P 8 6 - 1) 2) < (A 8 3 + x1 * A (P 8 7 - 1) 1 + A (P 8 5 - 1) 7)) → Q (some (.int (iz 0))) (Wm W A P)) ∧ (¬ ((A (P 8 6 - 1) 2) < (A 8 3 + x1 * A (P 8 7 - 1) 1 + A (P 8 5 - 1) 7)) → (¬ P 8 7 = 0) ∧ (gK W (P 8 7 - 1) = 6) ∧ (Rg (x1 * (A (P 8 7 - 1) 1))) ∧ (Rg ((A 8 3) + (x1 * (A (P 8 7 - 1) 1)))) ∧ (¬ P 8 5 = 0) ∧ (gK W (P 8 5 - 1) = 3) ∧ (OBt W P A (P 8 6 - 1)) ∧ (Rg (((A 8 3) + (x1 * (A (P 8 7 - 1) 1))) + (A (P 8 5 - 1) 7))) ∧ ((¬ (¬ k_isF A (P 8 6 - 1) ((A 8 3) + (x1 * (A (P 8 7 - 1) 1))) (A (P 8 5 - 1) 7)) → Q (some (.int (iz 0))) (Wm W A P)) ∧ ((¬ k_isF A (P 8 6 - 1) ((A 8 3) + (x1 * (A (P 8 7 - 1) 1))) (A (P 8 5 - 1) 7)) → Q (some (.int (iz 1))) (Wm W A P)))))) : wpE (xT 78) (xev xT d) Q (0, [(0, .ref (lo W 8)), (1, .int (iz x1))], [], Wm W A P) := by
  refine p_ald (cc3 c78_0) rfl ?_
  refine p_ild (cc3 c78_1) rfl ?_
  obtain ⟨g1, h⟩ := h
  obtain ⟨g2, h⟩ := h
  obtain ⟨g3, h⟩ := h
  refine p_callV (cc3 c78_2) (Nat.le_of_ble_eq_true rfl) rfl rfl (Nat.le_of_ble_eq_true rfl) (wk_kd hW (by decide) (st_k hT 8 4 (by decide))) (S77 (Nat.le_trans (by decide) hd) hW hR hT hG rr ⟨g1, g2, g3⟩) ?_
  refine p_ald (cc3 c78_5) rfl ?_
  obtain ⟨g4, h⟩ := h
  refine w_getp0 hW hT.1 (cc3 c78_6) (st_k hT 8 4 (by decide)) (ji := 6) rfl g4 ?_
  obtain ⟨g5, h⟩ := h
  refine w_geti hW (v := A (P 8 6 - 1) 2) (cc3 c78_9) g5 (ji := 2) rfl rfl ?_
  refine i_icmp (c' := (A (P 8 6 - 1) 2) < (A 8 3 + x1 * A (P 8 7 - 1) 1 + A (P 8 5 - 1) 7)) (cc3 c78_12) (iz_lt (hR (P 8 6 - 1) 2) (rg_usd ⟨g1, g2, g3⟩)) (fun c => ?_) (fun c => ?_)
  · have h := h.1 c
    refine p_lc (ls' := []) c78_50 rfl rfl ?_
    refine i_push (n := 0) (cct c78_50 rfl) zl_0 ?_
    exact i_ri (cct c78_51 rfl) (by decide) h
  · have h := h.2 c
    refine p_ald (cc3 c78_15) rfl ?_
    refine w_getp0 hW hT.1 (cc3 c78_16) (st_k hT 8 4 (by decide)) (ji := 6) rfl g4 ?_
    refine p_ald (cc3 c78_19) rfl ?_
    refine w_geti hW (v := A 8 3) (cc3 c78_20) (st_k hT 8 4 (by decide)) (ji := 3) rfl rfl ?_
    refine p_ild (cc3 c78_23) rfl ?_
    refine p_ald (cc3 c78_24) rfl ?_
    obtain ⟨g6, h⟩ := h
    refine w_getp0 hW hT.1 (cc3 c78_25) (st_k hT 8 4 (by decide)) (ji := 7) rfl g6 ?_
    obtain ⟨g7, h⟩ := h
    refine w_geti hW (v := A (P 8 7 - 1) 1) (cc3 c78_28) g7 (ji := 1) rfl rfl ?_
    obtain ⟨g8, h⟩ := h
    refine (fun _ : Rg (x1 * (A (P 8 7 - 1) 1)) => i_mul (cc3 c78_31) ?_) g8
    obtain ⟨g9, h⟩ := h
    refine (fun _ : Rg ((A 8 3) + (x1 * (A (P 8 7 - 1) 1))) => i_add (cc3 c78_32) ?_) g9
    refine p_ald (cc3 c78_33) rfl ?_
    obtain ⟨g10, h⟩ := h
    refine w_getp0 hW hT.1 (cc3 c78_34) (st_k hT 8 4 (by decide)) (ji := 5) rfl g10 ?_
    obtain ⟨g11, h⟩ := h
    refine w_geti hW (v := A (P 8 5 - 1) 7) (cc3 c78_37) g11 (ji := 7) rfl rfl ?_
    obtain ⟨g12, h⟩ := h
    obtain ⟨g13, h⟩ := h
    refine p_callV (cc3 c78_40) (Nat.le_of_ble_eq_true rfl) rfl rfl (Nat.le_of_ble_eq_true rfl) (wk_kd hW (by decide) g5) (S56 (Nat.le_trans (by decide) hd) hW hR hT hG ⟨g9, (hR (P 8 5 - 1) 7)⟩ ⟨g12, g13⟩) ?_
    refine i_ifB (cc3 c78_43) (fun c => ?_) (fun c => ?_)
    · have h := h.1 c
      refine p_lc (ls' := []) c78_50 rfl rfl ?_
      refine i_push (n := 0) (cct c78_50 rfl) zl_0 ?_
      exact i_ri (cct c78_51 rfl) (by decide) h
    · have h := h.2 c
      refine i_push (n := 1) (cc3 c78_46) zl_1 ?_
      refine p_goto (cc3 c78_47) ?_
      refine p_lc (ls' := []) c78_51 rfl rfl ?_
      exact i_ri (cct c78_51 rfl) (by decide) h
theorem S78 {d : Nat} (hd : 2 ≤ d) {W : gW} (hW : HW W) {A : Nat → Int → Int} {P : Nat → Int → Nat} (hR : RG A) (hT : Stat W P) (hG : GL W) {x1 : Int} (rr : Rg x1) (hp : (LyC W P A) ∧ (0 ≤ A 8 3 ∧ A 8 3 ≤ 100000) ∧ (0 ≤ x1 ∧ x1 ≤ 1000)) : xev xT d 78 [.ref (lo W 8), .int (iz x1)] (Wm W A P) (some (.int (iz (bI (A 8 3 + x1 * A (P 8 7 - 1) 1 + A (P 8 5 - 1) 7 ≤ A (P 8 6 - 1) 2 ∧ ¬ k_isF A (P 8 6 - 1) (A 8 3 + x1 * A (P 8 7 - 1) 1) (A (P 8 5 - 1) 7)))))) (Wm W A P) := by
  refine xev_i (D := 1) hd (Nat.le_of_ble_eq_true rfl) (fun d hd => V78_0 hd hW hR hT hG rr ?_)

  have h9 := rg_usd hp
  obtain ⟨p1, p2, p3⟩ := hp
  have b3 := pd_b p1 p3
  refine ⟨p1, p2, p3, p1.1.2.1, p1.2.2.1.1.1, fun c => ⟨vq (bI_f (fun q => by omega)).symm, rfl⟩, fun c => ⟨p1.1.2.2, p1.2.2.2.1.1.1, ⟨by omega, by omega⟩, ⟨by omega, by omega⟩, p1.1.1, p1.2.1.1, p1.2.2.1, h9, fun c2 => ⟨vq (bI_f (fun q => c2 q.2)).symm, rfl⟩, fun c2 => ⟨vq (bI_t ⟨by omega, c2⟩).symm, rfl⟩⟩⟩
theorem V82_0 {d : Nat} (hd : 1 ≤ d) {Q : Option Value → xM → Prop} {W : gW} (hW : HW W) {A : Nat → Int → Int} {P : Nat → Int → Nat} (hR : RG A) (hT : Stat W P) (hG : GL W) {x1 : Int} (rr : Rg x1) (h : (¬ P 8 6 = 0) ∧ (¬ P 8 7 = 0) ∧ (gK W (P 8 7 - 1) = 6) ∧ (Rg (x1 * (A (P 8 7 - 1) 1))) ∧ (Rg ((A 8 2) + (x1 * (A (P 8 7 - 1) 1)))) ∧ (¬ P 8 5 = 0) ∧ (gK W (P 8 5 - 1) = 3) ∧ (OBt W P A (P 8 6 - 1)) ∧ (Rg (((A 8 2) + (x1 * (A (P 8 7 - 1) 1))) + (A (P 8 5 - 1) 7))) ∧ (gK W (P 8 6 - 1) = 1) ∧ Q (some (.int (iz (bI (¬ k_isF A (P 8 6 - 1) ((A 8 2) + (x1 * (A (P 8 7 - 1) 1))) (A (P 8 5 - 1) 7)))))) (Wm W A P)) : wpE (xT 82) (xev xT d) Q (0, [(0, .ref (lo W 8)), (1, .int (iz x1))], [], Wm W A P) := by
  refine p_ald (cc3 c82_0) rfl ?_
  obtain ⟨g1, h⟩ := h
  refine w_getp0 hW hT.1 (cc3 c82_1) (st_k hT 8 4 (by decide)) (ji := 6) rfl g1 ?_
  refine p_ald (cc3 c82_4) rfl ?_
  refine w_geti hW (v := A 8 2) (cc3 c82_5) (st_k hT 8 4 (by decide)) (ji := 2) rfl rfl ?_
  refine p_ild (cc3 c82_8) rfl ?_
  refine p_ald (cc3 c82_9) rfl ?_
  obtain ⟨g2, h⟩ := h
  refine w_getp0 hW hT.1 (cc3 c82_10) (st_k hT 8 4 (by decide)) (ji := 7) rfl g2 ?_
  obtain ⟨g3, h⟩ := h
  refine w_geti hW (v := A (P 8 7 - 1) 1) (cc3 c82_13) g3 (ji := 1) rfl rfl ?_
  obtain ⟨g4, h⟩ := h
  refine (fun _ : Rg (x1 * (A (P 8 7 - 1) 1)) => i_mul (cc3 c82_16) ?_) g4
  obtain ⟨g5, h⟩ := h
  refine (fun _ : Rg ((A 8 2) + (x1 * (A (P 8 7 - 1) 1))) => i_add (cc3 c82_17) ?_) g5
  refine p_ald (cc3 c82_18) rfl ?_
  obtain ⟨g6, h⟩ := h
  refine w_getp0 hW hT.1 (cc3 c82_19) (st_k hT 8 4 (by decide)) (ji := 5) rfl g6 ?_
  obtain ⟨g7, h⟩ := h
  refine w_geti hW (v := A (P 8 5 - 1) 7) (cc3 c82_22) g7 (ji := 7) rfl rfl ?_
  obtain ⟨g8, h⟩ := h
  obtain ⟨g9, h⟩ := h
  obtain ⟨g10, h⟩ := h
  refine p_callV (cc3 c82_25) (Nat.le_of_ble_eq_true rfl) rfl rfl (Nat.le_of_ble_eq_true rfl) (wk_kd hW (by decide) g10) (S56 (Nat.le_trans (by decide) hd) hW hR hT hG ⟨g5, (hR (P 8 5 - 1) 7)⟩ ⟨g8, g9⟩) ?_
  exact i_riB (cc3 c82_28) h
theorem S82 {d : Nat} (hd : 2 ≤ d) {W : gW} (hW : HW W) {A : Nat → Int → Int} {P : Nat → Int → Nat} (hR : RG A) (hT : Stat W P) (hG : GL W) {x1 : Int} (rr : Rg x1) (hp : (LyC W P A) ∧ (0 ≤ A 8 2 ∧ A 8 2 ≤ 100000) ∧ (0 ≤ x1 ∧ x1 ≤ 1000)) : xev xT d 82 [.ref (lo W 8), .int (iz x1)] (Wm W A P) (some (.int (iz (bI (¬ k_isF A (P 8 6 - 1) (A 8 2 + x1 * A (P 8 7 - 1) 1) (A (P 8 5 - 1) 7)))))) (Wm W A P) := by
  refine xev_i (D := 1) hd (Nat.le_of_ble_eq_true rfl) (fun d hd => V82_0 hd hW hR hT hG rr ?_)

  obtain ⟨p1, p2, p3⟩ := hp
  have b3 := pd_b p1 p3
  have b4 := p1.2.1.2.2.2.2.2.2.2.1
  exact ⟨p1.1.2.1, p1.1.2.2, p1.2.2.2.1.1.1, ⟨by omega, by omega⟩, ⟨by omega, by omega⟩, p1.1.1, p1.2.1.1, p1.2.2.1, ⟨by omega, by omega⟩, p1.2.2.1.1.1, rfl, rfl⟩
theorem V80_0 {d : Nat} (hd : 0 ≤ d) {Q : Option Value → xM → Prop} {W : gW} (hW : HW W) {A : Nat → Int → Int} {P : Nat → Int → Nat} (hR : RG A) (hT : Stat W P) (hG : GL W) {x1 x2 : Int} (rr : Rg x1 ∧ Rg x2) (h : (((x1 < 0) → Q (some (.int (iz (-1)))) (Wm W A P)) ∧ (¬ (x1 < 0) → (((24 ≤ x1) → Q (some (.int (iz (-1)))) (Wm W A P)) ∧ (¬ (24 ≤ x1) → (((x2 < 0) → Q (some (.int (iz (-1)))) (Wm W A P)) ∧ (¬ (x2 < 0) → (((x2 < 211) → (Rg (x1 * 211)) ∧ (Rg ((x1 * 211) + x2)) ∧ (0 ≤ ((x1 * 211) + x2) ∧ ((x1 * 211) + x2) < 5064) ∧ Q (some (.int (iz (A 9 ((x1 * 211) + x2))))) (Wm W A P)) ∧ (¬ (x2 < 211) → Q (some (.int (iz (-1)))) (Wm W A P)))))))))) : wpE (xT 80) (xev xT d) Q (0, [(0, .ref (lo W 8)), (1, .int (iz x1)), (2, .int (iz x2))], [], Wm W A P) := by
  refine p_ild (cc3 c80_0) rfl ?_
  refine i_if (c' := x1 < 0) (cc3 c80_1) (c_lt0 rr.1) (fun c => ?_) (fun c => ?_)
  · have h := h.1 c
    refine p_lc (ls' := []) c80_21 rfl rfl ?_
    refine i_push (n := (-1)) (cct c80_21 rfl) zl_m1 ?_
    refine p_goto (cc3 c80_22) ?_
    exact p_ri (cct c80_37 rfl) trivial h
  · have h := h.2 c
    refine p_ild (cc3 c80_4) rfl ?_
    refine i_push (n := 24) (cc3 c80_5) zl_24 ?_
    refine i_icmp (c' := 24 ≤ x1) (cc3 c80_7) (iz_le (by decide : Rg (24 : Int)) rr.1) (fun c => ?_) (fun c => ?_)
    · have h := h.1 c
      refine p_lc (ls' := []) c80_21 rfl rfl ?_
      refine i_push (n := (-1)) (cct c80_21 rfl) zl_m1 ?_
      refine p_goto (cc3 c80_22) ?_
      exact p_ri (cct c80_37 rfl) trivial h
    · have h := h.2 c
      refine p_ild (cc3 c80_10) rfl ?_
      refine i_if (c' := x2 < 0) (cc3 c80_11) (c_lt0 rr.2) (fun c => ?_) (fun c => ?_)
      · have h := h.1 c
        refine p_lc (ls' := []) c80_21 rfl rfl ?_
        refine i_push (n := (-1)) (cct c80_21 rfl) zl_m1 ?_
        refine p_goto (cc3 c80_22) ?_
        exact p_ri (cct c80_37 rfl) trivial h
      · have h := h.2 c
        refine p_ild (cc3 c80_14) rfl ?_
        refine i_push (n := 211) (cc3 c80_15) zl_211 ?_
        refine i_icmp (c' := x2 < 211) (cc3 c80_18) (iz_lt rr.2 (by decide : Rg (211 : Int))) (fun c => ?_) (fun c => ?_)
        · have h := h.1 c
          refine p_ald (cc3 c80_25) rfl ?_
          refine w_getp hW hT.1 (b := 9) (cc3 c80_26) (st_k hT 8 4 (by decide)) (ji := 0) rfl (st_p hT 8 0 9 (by decide)) ?_
          refine p_ild (cc3 c80_29) rfl ?_
          refine i_push (n := 211) (cc3 c80_30) zl_211 ?_
          obtain ⟨g1, h⟩ := h
          refine (fun _ : Rg (x1 * 211) => i_mul (cc3 c80_33) ?_) g1
          refine p_ild (cc3 c80_34) rfl ?_
          obtain ⟨g2, h⟩ := h
          refine (fun _ : Rg ((x1 * 211) + x2) => i_add (cc3 c80_35) ?_) g2
          obtain ⟨g3, h⟩ := h
          refine w_aldi hW (v := A 9 ((x1 * 211) + x2)) (cc3 c80_36) (st_k hT 9 20 (by decide)) (st_i hT 9 5064 (by decide) g3) rfl ?_
          refine p_lc (ls' := []) c80_37 rfl rfl ?_
          exact p_ri (cct c80_37 rfl) trivial h
        · have h := h.2 c
          refine p_lc (ls' := []) c80_21 rfl rfl ?_
          refine i_push (n := (-1)) (cct c80_21 rfl) zl_m1 ?_
          refine p_goto (cc3 c80_22) ?_
          exact p_ri (cct c80_37 rfl) trivial h
theorem S80 {d : Nat} (hd : 1 ≤ d) {W : gW} (hW : HW W) {A : Nat → Int → Int} {P : Nat → Int → Nat} (hR : RG A) (hT : Stat W P) (hG : GL W) {x1 x2 : Int} (rr : Rg x1 ∧ Rg x2) : xev xT d 80 [.ref (lo W 8), .int (iz x1), .int (iz x2)] (Wm W A P) (some (.int (iz (k_kept A x1 x2)))) (Wm W A P) := by
  refine xev_i (D := 0) hd (Nat.le_of_ble_eq_true rfl) (fun d hd => V80_0 hd hW hR hT hG rr ?_)

  exact ⟨fun c => ⟨vq (by unfold k_kept; rw [if_neg (by omega)]), rfl⟩, fun c => ⟨fun c => ⟨vq (by unfold k_kept; rw [if_neg (by omega)]), rfl⟩, fun c2 => ⟨fun c => ⟨vq (by unfold k_kept; rw [if_neg (by omega)]), rfl⟩, fun c3 => ⟨fun c4 => ⟨⟨by omega, by omega⟩, ⟨by omega, by omega⟩, by omega, vq (by unfold k_kept; rw [if_pos (by omega)]), rfl⟩, fun c => ⟨vq (by unfold k_kept; rw [if_neg (by omega)]), rfl⟩⟩⟩⟩⟩
theorem V122_0 {d : Nat} (hd : 0 ≤ d) {Q : Option Value → xM → Prop} {W : gW} (hW : HW W) {A : Nat → Int → Int} {P : Nat → Int → Nat} (hR : RG A) (hT : Stat W P) (hG : GL W) {x1 : Int} {a0 : Nat} (rr : Rg x1) (h : (((x1 < 0) → Q (some (.int (iz 0))) (Wm W A P)) ∧ (¬ (x1 < 0) → (gK W a0 = 8) ∧ ((((A a0 2) ≤ x1) → Q (some (.int (iz 0))) (Wm W A P)) ∧ (¬ ((A a0 2) ≤ x1) → (((40 ≤ x1) → Q (some (.int (iz 0))) (Wm W A P)) ∧ (¬ (40 ≤ x1) → Q (some (.int (iz 1))) (Wm W A P)))))))) : wpE (xT 122) (xev xT d) Q (0, [(0, .ref (lo W a0)), (1, .int (iz x1))], [], Wm W A P) := by
  refine p_ild (cc3 c122_0) rfl ?_
  refine i_if (c' := x1 < 0) (cc3 c122_1) (c_lt0 rr) (fun c => ?_) (fun c => ?_)
  · have h := h.1 c
    refine p_lc (ls' := []) c122_22 rfl rfl ?_
    refine i_push (n := 0) (cct c122_22 rfl) zl_0 ?_
    exact i_ri (cct c122_23 rfl) (by decide) h
  · have h := h.2 c
    refine p_ild (cc3 c122_4) rfl ?_
    refine p_ald (cc3 c122_5) rfl ?_
    obtain ⟨g1, h⟩ := h
    refine w_geti hW (v := A a0 2) (cc3 c122_6) g1 (ji := 2) rfl rfl ?_
    refine i_icmp (c' := (A a0 2) ≤ x1) (cc3 c122_9) (iz_le (hR a0 2) rr) (fun c => ?_) (fun c => ?_)
    · have h := h.1 c
      refine p_lc (ls' := []) c122_22 rfl rfl ?_
      refine i_push (n := 0) (cct c122_22 rfl) zl_0 ?_
      exact i_ri (cct c122_23 rfl) (by decide) h
    · have h := h.2 c
      refine p_ild (cc3 c122_12) rfl ?_
      refine i_push (n := 40) (cc3 c122_13) zl_40 ?_
      refine i_icmp (c' := 40 ≤ x1) (cc3 c122_15) (iz_le (by decide : Rg (40 : Int)) rr) (fun c => ?_) (fun c => ?_)
      · have h := h.1 c
        refine p_lc (ls' := []) c122_22 rfl rfl ?_
        refine i_push (n := 0) (cct c122_22 rfl) zl_0 ?_
        exact i_ri (cct c122_23 rfl) (by decide) h
      · have h := h.2 c
        refine i_push (n := 1) (cc3 c122_18) zl_1 ?_
        refine p_goto (cc3 c122_19) ?_
        refine p_lc (ls' := []) c122_23 rfl rfl ?_
        exact i_ri (cct c122_23 rfl) (by decide) h
theorem S122 {d : Nat} (hd : 1 ≤ d) {W : gW} (hW : HW W) {A : Nat → Int → Int} {P : Nat → Int → Nat} (hR : RG A) (hT : Stat W P) (hG : GL W) {x1 : Int} {a0 : Nat} (rr : Rg x1) (hp : (gK W a0 = 8)) : xev xT d 122 [.ref (lo W a0), .int (iz x1)] (Wm W A P) (some (.int (iz (bI (0 ≤ x1 ∧ x1 < A a0 2 ∧ x1 < 40))))) (Wm W A P) := by
  refine xev_i (D := 0) hd (Nat.le_of_ble_eq_true rfl) (fun d hd => V122_0 hd hW hR hT hG rr ?_)
  repeat' (first | refine And.intro ?_ ?_ | intro _)
  all_goals (first | assumption | rfl | omega | (refine congrArg (fun z => some (Value.int (iz z))) ?_; first | omega | exact (bI_f (by omega)).symm | exact (bI_t (by omega)).symm | exact bI_i (by omega)))
theorem V123_0 {d : Nat} (hd : 0 ≤ d) {Q : Option Value → xM → Prop} {W : gW} (hW : HW W) {A : Nat → Int → Int} {P : Nat → Int → Nat} (hR : RG A) (hT : Stat W P) (hG : GL W) {x1 : Int} {a0 : Nat} (rr : Rg x1) (h : (gK W a0 = 8) ∧ ((((A a0 1) = 0) → Q (some (.int (iz (b8 x1)))) (Wm W A P)) ∧ (¬ ((A a0 1) = 0) → ((((A a0 1) = 1) → Q (some (.int (iz (b16 x1)))) (Wm W A P)) ∧ (¬ ((A a0 1) = 1) → Q (some (.int (iz x1))) (Wm W A P)))))) : wpE (xT 123) (xev xT d) Q (0, [(0, .ref (lo W a0)), (1, .int (iz x1))], [], Wm W A P) := by
  refine p_ald (cc3 c123_0) rfl ?_
  obtain ⟨g1, h⟩ := h
  refine w_geti hW (v := A a0 1) (cc3 c123_1) g1 (ji := 1) rfl rfl ?_
  refine i_if (c' := (A a0 1) = 0) (cc3 c123_4) (c_eq0 (hR a0 1)) (fun c => ?_) (fun c => ?_)
  · have h := h.1 c
    refine p_ild (cc3 c123_7) rfl ?_
    refine i_un (z := b8 x1) (cc3 c123_8) (iz_of _).symm ?_
    exact p_ri (cc3 c123_9) trivial h
  · have h := h.2 c
    refine p_ald (cc3 c123_10) rfl ?_
    refine w_geti hW (v := A a0 1) (cc3 c123_11) g1 (ji := 1) rfl rfl ?_
    refine i_push (n := 1) (cc3 c123_14) zl_1 ?_
    refine i_icmp (c' := (A a0 1) = 1) (cc3 c123_15) (iz_inj (hR a0 1) (by decide : Rg (1 : Int))) (fun c => ?_) (fun c => ?_)
    · have h := h.1 c
      refine p_ild (cc3 c123_18) rfl ?_
      refine i_un (z := b16 x1) (cc3 c123_19) (iz_of _).symm ?_
      refine p_goto (cc3 c123_20) ?_
      refine p_lc (ls' := []) c123_24 rfl rfl ?_
      exact p_ri (cct c123_24 rfl) trivial h
    · have h := h.2 c
      refine p_ild (cc3 c123_23) rfl ?_
      refine p_lc (ls' := []) c123_24 rfl rfl ?_
      exact p_ri (cct c123_24 rfl) trivial h
theorem S123 {d : Nat} (hd : 1 ≤ d) {W : gW} (hW : HW W) {A : Nat → Int → Int} {P : Nat → Int → Nat} (hR : RG A) (hT : Stat W P) (hG : GL W) {x1 : Int} {a0 : Nat} (rr : Rg x1) (hp : (gK W a0 = 8)) : xev xT d 123 [.ref (lo W a0), .int (iz x1)] (Wm W A P) (some (.int (iz (if A a0 1 = 0 then b8 x1 else if A a0 1 = 1 then b16 x1 else x1)))) (Wm W A P) := by
  refine xev_i (D := 0) hd (Nat.le_of_ble_eq_true rfl) (fun d hd => V123_0 hd hW hR hT hG rr ?_)

  exact ⟨hp, fun c => ⟨vq (by rw [if_pos c]), rfl⟩, fun c => ⟨fun c2 => ⟨vq (by rw [if_neg c, if_pos c2]), rfl⟩, fun c2 => ⟨vq (by rw [if_neg c, if_neg c2]), rfl⟩⟩⟩
theorem V6_0 {d : Nat} (hd : 0 ≤ d) {Q : Option Value → xM → Prop} {W : gW} (hW : HW W) {A : Nat → Int → Int} {P : Nat → Int → Nat} (hR : RG A) {x1 : Int} {a0 : Nat} (rr : Rg x1) (h : (gK W a0 = 20) ∧ wpE (xT 6) (xev xT d) Q (5, [(0, .ref (lo W a0)), (1, .int (iz x1)), (2, .int (iz 0)), (3, .int (iz (gL W a0 : Int)))], [], Wm W A P)) : wpE (xT 6) (xev xT d) Q (0, [(0, .ref (lo W a0)), (1, .int (iz x1))], [], Wm W A P) := by
  refine i_push (n := 0) (cc3 c6_0) zl_0 ?_
  refine p_ist (ls' := [(2, .int (iz 0)), (0, .ref (lo W a0)), (1, .int (iz x1))]) (cc3 c6_1) (by decide) rfl ?_
  refine p_ald (cc3 c6_2) rfl ?_
  obtain ⟨g1, h⟩ := h
  refine w_len hW (cc3 c6_3) g1 ?_
  refine p_ist (ls' := [(3, .int (iz (gL W a0 : Int))), (2, .int (iz 0)), (0, .ref (lo W a0)), (1, .int (iz x1))]) (cc3 c6_4) (by decide) rfl ?_
  exact p_lc (ls' := [(0, .ref (lo W a0)), (1, .int (iz x1)), (2, .int (iz 0)), (3, .int (iz (gL W a0 : Int)))]) c6_5 rfl rfl h
theorem V6_5 {d : Nat} (hd : 0 ≤ d) {Q : Option Value → xM → Prop} {W : gW} (hW : HW W) {A : Nat → Int → Int} {P : Nat → Int → Nat} (hR : RG A) {x1 x2 x3 : Int} {a0 : Nat} (rr : Rg x1 ∧ Rg x2 ∧ Rg x3) (h : (((x3 ≤ x2) → Q none (Wm W A P)) ∧ (¬ (x3 ≤ x2) → (gK W a0 = 20) ∧ (0 ≤ x2 ∧ x2 < gL W a0 ∧ x2 ≤ 2147483647) ∧ (Rg (x2 + 1)) ∧ wpE (xT 6) (xev xT d) Q (5, [(0, .ref (lo W a0)), (1, .int (iz x1)), (2, .int (iz (x2 + 1))), (3, .int (iz x3))], [], Wm W (UA A a0 x2 x1) P)))) : wpE (xT 6) (xev xT d) Q (5, [(0, .ref (lo W a0)), (1, .int (iz x1)), (2, .int (iz x2)), (3, .int (iz x3))], [], Wm W A P) := by
  refine p_ild (cct c6_5 rfl) rfl ?_
  refine p_ild (cc3 c6_6) rfl ?_
  refine i_icmp (c' := x3 ≤ x2) (cc3 c6_7) (iz_le rr.2.2 rr.2.1) (fun c => ?_) (fun c => ?_)
  · have h := h.1 c
    exact p_rv (cc3 c6_20) h
  · have h := h.2 c
    refine p_ald (cc3 c6_10) rfl ?_
    refine p_ild (cc3 c6_11) rfl ?_
    refine p_ild (cc3 c6_12) rfl ?_
    obtain ⟨g1, h⟩ := h
    obtain ⟨g2, h⟩ := h
    refine id (α := Rg x1 → _) (fun _ => ?_) rr.1; refine w_asti hW (cc3 c6_13) g1 g2 rfl ?_
    obtain ⟨g3, h⟩ := h
    refine (fun _ : Rg (x2 + 1) => i_iinc (n := 1) (y := x2 + 1) (ls' := [(2, .int (iz (x2 + 1))), (0, .ref (lo W a0)), (1, .int (iz x1)), (3, .int (iz x3))]) (cc3 c6_14) (by decide) rfl zl_1 (by first | rfl | omega) rfl ?_) g3
    refine p_goto (cc3 c6_17) ?_
    exact p_lc (ls' := [(0, .ref (lo W a0)), (1, .int (iz x1)), (2, .int (iz (x2 + 1))), (3, .int (iz x3))]) c6_5 rfl rfl h

theorem L6 {d : Nat} {Q : Option Value → xM → Prop} {W : gW} (hW : HW W) {A : Nat → Int → Int} {P : Nat → Int → Nat} (hR : RG A) {a : Nat} {v : Int} (rv : Rg v) (h1 : gK W a = 20) (h2 : (gL W a : Int) ≤ 100000) (hQ : Q none (Wm W (k_fill A a v (gL W a : Int)) P)) :
    ∀ n k : Nat, k + n = gL W a → wpE (xT 6) (xev xT d) Q (5, [(0, .ref (lo W a)), (1, .int (iz v)), (2, .int (iz k)), (3, .int (iz (gL W a : Int)))], [], Wm W (k_fill A a v k) P) := by
  intro n
  induction n with
  | zero =>
    intro k hk
    have e : k = gL W a := hk
    rw [← e] at hQ
    refine V6_5 (Nat.zero_le _) hW (rg_fill hR rv) ⟨rv, ⟨by omega, by omega⟩, ⟨by omega, by omega⟩⟩ ⟨fun _ => hQ, fun c => absurd (by omega) c⟩
  | succ n ih =>
    intro k hk
    have e := fill_s (A := A) (a := a) (v := v) (n := k) (by omega)
    have := ih (k + 1) (by omega)
    rw [show ((k + 1 : Nat) : Int) = (k : Int) + 1 from rfl, ← e] at this
    exact V6_5 (Nat.zero_le _) hW (rg_fill hR rv) ⟨rv, ⟨by omega, by omega⟩, ⟨by omega, by omega⟩⟩ ⟨fun c => absurd c (by omega), fun _ => ⟨h1, ⟨by omega, by omega, by omega⟩, ⟨by omega, by omega⟩, this⟩⟩
theorem S6 {d : Nat} (hd : 1 ≤ d) {W : gW} (hW : HW W) {A : Nat → Int → Int} {P : Nat → Int → Nat} (hR : RG A) {x1 : Int} {a0 : Nat} (rr : Rg x1) (hp : (gK W a0 = 20) ∧ ((gL W a0 : Int) ≤ 100000)) : xev xT d 6 [.ref (lo W a0), .int (iz x1)] (Wm W A P) none (Wm W (k_fill A a0 x1 (gL W a0 : Int)) P) := by
  refine xev_i (D := 0) hd (Nat.le_of_ble_eq_true rfl) (fun d hd => V6_0 hd hW hR rr ?_)

  have := L6 (Q := fun r' s' => r' = none ∧ s' = Wm W (k_fill A a0 x1 (gL W a0 : Int)) P) (d := d) hW hR rr hp.1 hp.2 ⟨rfl, rfl⟩ (gL W a0) 0 (Nat.zero_add _)
  rw [show ((0 : Nat) : Int) = 0 from rfl, fill_0] at this
  exact ⟨hp.1, this⟩
theorem V120_0 {d : Nat} (hd : 1 ≤ d) {Q : Option Value → xM → Prop} {W : gW} (hW : HW W) {A : Nat → Int → Int} {P : Nat → Int → Nat} (hR : RG A) (hT : Stat W P) (hG : GL W) {x1 x2 : Int} {a0 : Nat} (rr : Rg x1 ∧ Rg x2) (h : (gK W a0 = 8) ∧ (P a0 0 = (a0 + 1) + 1) ∧ (gK W (a0 + 1) = 20) ∧ ((gL W (a0 + 1) : Int) ≤ 100000) ∧ Q none (Wm W (k_fill (UA (UA A a0 1 x1) a0 2 x2) (a0 + 1) 0 (gL W (a0 + 1) : Int)) P)) : wpE (xT 120) (xev xT d) Q (0, [(0, .ref (lo W a0)), (1, .int (iz x1)), (2, .int (iz x2))], [], Wm W A P) := by
  refine p_ald (cc3 c120_0) rfl ?_
  refine p_ild (cc3 c120_1) rfl ?_
  obtain ⟨g1, h⟩ := h
  refine id (α := Rg x1 → _) (fun _ => ?_) rr.1; refine w_puti hW (cc3 c120_2) g1 (ji := 1) rfl ?_
  refine p_ald (cc3 c120_5) rfl ?_
  refine p_ild (cc3 c120_6) rfl ?_
  refine id (α := Rg x2 → _) (fun _ => ?_) rr.2; refine w_puti hW (cc3 c120_7) g1 (ji := 2) rfl ?_
  refine p_ald (cc3 c120_10) rfl ?_
  obtain ⟨g2, h⟩ := h
  refine w_getp hW hT.1 (b := a0 + 1) (cc3 c120_11) g1 (ji := 0) rfl g2 ?_
  refine i_push (n := 0) (cc3 c120_14) zl_0 ?_
  obtain ⟨g3, h⟩ := h
  obtain ⟨g4, h⟩ := h
  refine p_callS (cc3 c120_15) (Nat.le_of_ble_eq_true rfl) rfl rfl (Nat.le_of_ble_eq_true rfl) (S6 (Nat.le_trans (by decide) hd) hW (rg_UA (rg_UA hR rr.1) rr.2) (by decide : Rg (0 : Int)) ⟨g3, g4⟩) ?_
  exact p_rv (cc3 c120_18) h

theorem rg_renew {A : Nat → Int → Int} {a : Nat} {x y : Int} (h : RG A) (hx : Rg x ∧ Rg y) : RG (k_fill (UA (UA A a 1 x) a 2 y) (a + 1) 0 40) := rg_fill (rg_UA (rg_UA h hx.1) hx.2) (by decide)
theorem S120 {d : Nat} (hd : 2 ≤ d) {W : gW} (hW : HW W) {A : Nat → Int → Int} {P : Nat → Int → Nat} (hR : RG A) (hT : Stat W P) (hG : GL W) {x1 x2 : Int} {a0 : Nat} (rr : Rg x1 ∧ Rg x2) (hp : (OSh W P a0)) : xev xT d 120 [.ref (lo W a0), .int (iz x1), .int (iz x2)] (Wm W A P) none (Wm W (k_fill (UA (UA A a0 1 x1) a0 2 x2) (a0 + 1) 0 40) P) := by
  refine xev_i (D := 1) hd (Nat.le_of_ble_eq_true rfl) (fun d hd => V120_0 hd hW hR hT hG rr ?_)

  obtain ⟨⟨k1, k2⟩, q1, l1⟩ := hp
  refine ⟨k1, q1, k2, by omega, rfl, ?_⟩
  rw [l1]; rfl
theorem V104_0 {d : Nat} (hd : 0 ≤ d) {Q : Option Value → xM → Prop} {W : gW} (hW : HW W) {A : Nat → Int → Int} {P : Nat → Int → Nat} (hR : RG A) (hT : Stat W P) (hG : GL W) {x1 : Int} {a0 : Nat} (rr : Rg x1) (h : (gK W a0 = 10) ∧ (P a0 1 = (a0 + 2) + 1) ∧ (gK W (a0 + 2) = 20) ∧ (Rg (gL W (a0 + 2) : Int)) ∧ ((((gL W (a0 + 2) : Int) ≤ (A a0 3)) → Q none (Wm W A P)) ∧ (¬ ((gL W (a0 + 2) : Int) ≤ (A a0 3)) → (0 ≤ (A a0 3) ∧ (A a0 3) < gL W (a0 + 2) ∧ (A a0 3) ≤ 2147483647) ∧ (Rg (((UA A (a0 + 2) (A a0 3) x1) a0 3) + 1)) ∧ Q none (Wm W (UA (UA A (a0 + 2) (A a0 3) x1) a0 3 (((UA A (a0 + 2) (A a0 3) x1) a0 3) + 1)) P)))) : wpE (xT 104) (xev xT d) Q (0, [(0, .ref (lo W a0)), (1, .int (iz x1))], [], Wm W A P) := by
  refine p_ald (cc3 c104_0) rfl ?_
  obtain ⟨g1, h⟩ := h
  refine w_geti hW (v := A a0 3) (cc3 c104_1) g1 (ji := 3) rfl rfl ?_
  refine p_ald (cc3 c104_4) rfl ?_
  obtain ⟨g2, h⟩ := h
  refine w_getp hW hT.1 (b := a0 + 2) (cc3 c104_5) g1 (ji := 1) rfl g2 ?_
  obtain ⟨g3, h⟩ := h
  refine w_len hW (cc3 c104_8) g3 ?_
  obtain ⟨g4, h⟩ := h
  refine i_icmp (c' := (gL W (a0 + 2) : Int) ≤ (A a0 3)) (cc3 c104_9) (iz_le g4 (hR a0 3)) (fun c => ?_) (fun c => ?_)
  · have h := h.1 c
    refine p_lc (ls' := []) c104_32 rfl rfl ?_
    exact p_rv (cct c104_32 rfl) h
  · have h := h.2 c
    refine p_ald (cc3 c104_12) rfl ?_
    refine w_getp hW hT.1 (b := a0 + 2) (cc3 c104_13) g1 (ji := 1) rfl g2 ?_
    refine p_ald (cc3 c104_16) rfl ?_
    refine w_geti hW (v := A a0 3) (cc3 c104_17) g1 (ji := 3) rfl rfl ?_
    refine p_ild (cc3 c104_20) rfl ?_
    obtain ⟨g5, h⟩ := h
    refine id (α := Rg x1 → _) (fun _ => ?_) rr; refine w_asti hW (cc3 c104_21) g3 g5 rfl ?_
    refine p_ald (cc3 c104_22) rfl ?_
    refine p_dup (cc3 c104_23) rfl ?_
    refine w_geti hW (v := (UA A (a0 + 2) (A a0 3) x1) a0 3) (cc3 c104_24) g1 (ji := 3) rfl (by first | rfl | exact UA_eq | exact UA_j (by decide) | exact UA_c (by decide)) ?_
    refine i_push (n := 1) (cc3 c104_27) zl_1 ?_
    obtain ⟨g6, h⟩ := h
    refine (fun _ : Rg (((UA A (a0 + 2) (A a0 3) x1) a0 3) + 1) => i_add (cc3 c104_28) ?_) g6
    refine id (α := Rg (((UA A (a0 + 2) (A a0 3) x1) a0 3) + 1) → _) (fun _ => ?_) g6; refine w_puti hW (cc3 c104_29) g1 (ji := 3) rfl ?_
    refine p_lc (ls' := []) c104_32 rfl rfl ?_
    exact p_rv (cct c104_32 rfl) h

theorem rg_push {W : gW} {P : Nat → Int → Nat} {A : Nat → Int → Int} {a : Nat} {x : Int} (h : RG A) (hx : Rg x) (hp : OTx W P a ∧ (0 ≤ A a 3 ∧ A a 3 < (gL W (a + 2) : Int))) : RG (UA (UA A (a + 2) (A a 3) x) a 3 (A a 3 + 1)) := rg_UA (rg_UA h hx) ⟨by omega, by have := hp.1.2.2.2; omega⟩
theorem S104 {d : Nat} (hd : 1 ≤ d) {W : gW} (hW : HW W) {A : Nat → Int → Int} {P : Nat → Int → Nat} (hR : RG A) (hT : Stat W P) (hG : GL W) {x1 : Int} {a0 : Nat} (rr : Rg x1) (hp : (OTx W P a0) ∧ (0 ≤ A a0 3 ∧ A a0 3 < (gL W (a0 + 2) : Int))) : xev xT d 104 [.ref (lo W a0), .int (iz x1)] (Wm W A P) none (Wm W (UA (UA A (a0 + 2) (A a0 3) x1) a0 3 (A a0 3 + 1)) P) := by
  refine xev_i (D := 0) hd (Nat.le_of_ble_eq_true rfl) (fun d hd => V104_0 hd hW hR hT hG rr ?_)

  obtain ⟨⟨⟨k1, k2, k3⟩, ⟨q1, q2⟩, l1, l2⟩, p2⟩ := hp
  have e : UA A (a0 + 2) (A a0 3) x1 a0 3 = A a0 3 := UA_c (by omega)
  rw [e]
  exact ⟨k1, q2, k3, ⟨by omega, by omega⟩, fun c => by omega, fun c => ⟨by omega, ⟨by omega, by omega⟩, rfl, rfl⟩⟩
theorem V105_0 {d : Nat} (hd : 0 ≤ d) {Q : Option Value → xM → Prop} {W : gW} (hW : HW W) {A : Nat → Int → Int} {P : Nat → Int → Nat} (hR : RG A) (hT : Stat W P) (hG : GL W) {a0 : Nat} (h : (gK W a0 = 10) ∧ (((1 ≤ (A a0 3)) → (Rg ((A a0 3) - 1)) ∧ (P a0 1 = (a0 + 2) + 1) ∧ (gK W (a0 + 2) = 20) ∧ (0 ≤ ((A a0 3) - 1) ∧ ((A a0 3) - 1) < gL W (a0 + 2) ∧ ((A a0 3) - 1) ≤ 2147483647) ∧ Q (some (.int (iz ((UA A a0 3 ((A a0 3) - 1)) (a0 + 2) ((A a0 3) - 1))))) (Wm W (UA A a0 3 ((A a0 3) - 1)) P)) ∧ (¬ (1 ≤ (A a0 3)) → Q (some (.int (iz 0))) (Wm W A P)))) : wpE (xT 105) (xev xT d) Q (0, [(0, .ref (lo W a0))], [], Wm W A P) := by
  refine p_ald (cc3 c105_0) rfl ?_
  obtain ⟨g1, h⟩ := h
  refine w_geti hW (v := A a0 3) (cc3 c105_1) g1 (ji := 3) rfl rfl ?_
  refine i_push (n := 1) (cc3 c105_4) zl_1 ?_
  refine i_icmp (c' := 1 ≤ (A a0 3)) (cc3 c105_5) (iz_le (by decide : Rg (1 : Int)) (hR a0 3)) (fun c => ?_) (fun c => ?_)
  · have h := h.1 c
    refine p_ald (cc3 c105_10) rfl ?_
    refine p_dup (cc3 c105_11) rfl ?_
    refine w_geti hW (v := A a0 3) (cc3 c105_12) g1 (ji := 3) rfl rfl ?_
    refine i_push (n := 1) (cc3 c105_15) zl_1 ?_
    obtain ⟨g2, h⟩ := h
    refine (fun _ : Rg ((A a0 3) - 1) => i_sub (cc3 c105_16) ?_) g2
    refine id (α := Rg ((A a0 3) - 1) → _) (fun _ => ?_) g2; refine w_puti hW (cc3 c105_17) g1 (ji := 3) rfl ?_
    refine p_ald (cc3 c105_20) rfl ?_
    obtain ⟨g3, h⟩ := h
    refine w_getp hW hT.1 (b := a0 + 2) (cc3 c105_21) g1 (ji := 1) rfl g3 ?_
    refine p_ald (cc3 c105_24) rfl ?_
    refine w_geti hW (v := (A a0 3) - 1) (cc3 c105_25) g1 (ji := 3) rfl (by first | rfl | exact UA_eq | exact UA_j (by decide) | exact UA_c (by decide)) ?_
    obtain ⟨g4, h⟩ := h
    obtain ⟨g5, h⟩ := h
    refine w_aldi hW (v := (UA A a0 3 ((A a0 3) - 1)) (a0 + 2) ((A a0 3) - 1)) (cc3 c105_28) g4 g5 (by first | rfl | exact UA_eq | exact UA_c (by decide)) ?_
    exact p_ri (cc3 c105_29) trivial h
  · have h := h.2 c
    refine i_push (n := 0) (cc3 c105_8) zl_0 ?_
    exact p_ri (cc3 c105_9) trivial h

theorem rg_pop {W : gW} {P : Nat → Int → Nat} {A : Nat → Int → Int} {a : Nat} (h : RG A) (hp : OTx W P a ∧ (1 ≤ A a 3 ∧ A a 3 ≤ (gL W (a + 2) : Int))) : RG (UA A a 3 (A a 3 - 1)) := rg_UA h ⟨by omega, by have := hp.1.2.2.2; omega⟩
theorem S105 {d : Nat} (hd : 1 ≤ d) {W : gW} (hW : HW W) {A : Nat → Int → Int} {P : Nat → Int → Nat} (hR : RG A) (hT : Stat W P) (hG : GL W) {a0 : Nat} (hp : (OTx W P a0) ∧ (1 ≤ A a0 3 ∧ A a0 3 ≤ (gL W (a0 + 2) : Int))) : xev xT d 105 [.ref (lo W a0)] (Wm W A P) (some (.int (iz (A (a0 + 2) (A a0 3 - 1))))) (Wm W (UA A a0 3 (A a0 3 - 1)) P) := by
  refine xev_i (D := 0) hd (Nat.le_of_ble_eq_true rfl) (fun d hd => V105_0 hd hW hR hT hG ?_)

  obtain ⟨⟨⟨k1, k2, k3⟩, ⟨q1, q2⟩, l1, l2⟩, p2⟩ := hp
  have e : UA A a0 3 (A a0 3 - 1) (a0 + 2) (A a0 3 - 1) = A (a0 + 2) (A a0 3 - 1) := UA_c (by omega)
  rw [e]
  exact ⟨k1, fun _ => ⟨⟨by omega, by omega⟩, q2, k3, by omega, rfl, rfl⟩, fun c => by omega⟩
theorem V103_0 {d : Nat} (hd : 0 ≤ d) {Q : Option Value → xM → Prop} {W : gW} (hW : HW W) {A : Nat → Int → Int} {P : Nat → Int → Nat} (hR : RG A) (hT : Stat W P) (hG : GL W) {x0 : Int} {a1 : Nat} (rr : Rg x0) (h : (((x0 = 0) → (gK W a1 = 3) ∧ (P a1 10 = (a1 + 1) + 1) ∧ (gK W (a1 + 1) = 5) ∧ Q (some (.int (iz (A (a1 + 1) 4)))) (Wm W A P)) ∧ (¬ (x0 = 0) → ((x0 = 1) → (gK W a1 = 3) ∧ Q (some (.int (iz (A a1 4)))) (Wm W A P)) ∧ (¬ (x0 = 1) → ((x0 = 2) → (gK W a1 = 3) ∧ Q (some (.int (iz (A a1 2)))) (Wm W A P)) ∧ (¬ (x0 = 2) → ((x0 = 3) → (gK W a1 = 3) ∧ Q (some (.int (iz (A a1 3)))) (Wm W A P)) ∧ (¬ (x0 = 3) → ((x0 = 4) → (gK W a1 = 3) ∧ Q (some (.int (iz (A a1 13)))) (Wm W A P)) ∧ (¬ (x0 = 4) → (gK W a1 = 3) ∧ Q (some (.int (iz (A a1 0)))) (Wm W A P)))))))) : wpE (xT 103) (xev xT d) Q (0, [(0, .int (iz x0)), (1, .ref (lo W a1))], [], Wm W A P) := by
  refine p_ild (cc3 c103_0) rfl ?_
  refine (fun _ : Rg x0 => p_sw (cc3 c103_1) ?_) rr
  refine sw_c (n := 0) rr zl_0 (by decide) (fun c => ?_) (fun c => ?_)
  · have h := h.1 c
    refine p_ald (cc3 c103_36) rfl ?_
    obtain ⟨g1, h⟩ := h
    obtain ⟨g2, h⟩ := h
    refine w_getp hW hT.1 (b := a1 + 1) (cc3 c103_37) g1 (ji := 10) rfl g2 ?_
    obtain ⟨g3, h⟩ := h
    refine w_geti hW (v := A (a1 + 1) 4) (cc3 c103_40) g3 (ji := 4) rfl rfl ?_
    exact p_ri (cc3 c103_43) trivial h
  · have h := h.2 c
    refine sw_c (n := 1) rr zl_1 (by decide) (fun c => ?_) (fun c => ?_)
    · have h := h.1 c
      refine p_ald (cc3 c103_44) rfl ?_
      obtain ⟨g1, h⟩ := h
      refine w_geti hW (v := A a1 4) (cc3 c103_45) g1 (ji := 4) rfl rfl ?_
      exact p_ri (cc3 c103_48) trivial h
    · have h := h.2 c
      refine sw_c (n := 2) rr zl_2 (by decide) (fun c => ?_) (fun c => ?_)
      · have h := h.1 c
        refine p_ald (cc3 c103_49) rfl ?_
        obtain ⟨g1, h⟩ := h
        refine w_geti hW (v := A a1 2) (cc3 c103_50) g1 (ji := 2) rfl rfl ?_
        exact p_ri (cc3 c103_53) trivial h
      · have h := h.2 c
        refine sw_c (n := 3) rr zl_3 (by decide) (fun c => ?_) (fun c => ?_)
        · have h := h.1 c
          refine p_ald (cc3 c103_54) rfl ?_
          obtain ⟨g1, h⟩ := h
          refine w_geti hW (v := A a1 3) (cc3 c103_55) g1 (ji := 3) rfl rfl ?_
          exact p_ri (cc3 c103_58) trivial h
        · have h := h.2 c
          refine sw_c (n := 4) rr zl_4 (by decide) (fun c => ?_) (fun c => ?_)
          · have h := h.1 c
            refine p_ald (cc3 c103_59) rfl ?_
            obtain ⟨g1, h⟩ := h
            refine w_geti hW (v := A a1 13) (cc3 c103_60) g1 (ji := 13) rfl rfl ?_
            exact p_ri (cc3 c103_63) trivial h
          · have h := h.2 c
            refine sw_d ?_
            refine p_ald (cc3 c103_64) rfl ?_
            obtain ⟨g1, h⟩ := h
            refine w_geti hW (v := A a1 0) (cc3 c103_65) g1 (ji := 0) rfl rfl ?_
            exact p_ri (cc3 c103_68) trivial h
theorem S103 {d : Nat} (hd : 1 ≤ d) {W : gW} (hW : HW W) {A : Nat → Int → Int} {P : Nat → Int → Nat} (hR : RG A) (hT : Stat W P) (hG : GL W) {x0 : Int} {a1 : Nat} (rr : Rg x0) (hp : (OKi W P A a1)) : xev xT d 103 [.int (iz x0), .ref (lo W a1)] (Wm W A P) (some (.int (iz (k_fct A a1 x0)))) (Wm W A P) := by
  refine xev_i (D := 0) hd (Nat.le_of_ble_eq_true rfl) (fun d hd => V103_0 hd hW hR hT hG rr ?_)

  have k1 := hp.1
  have k2 := hp.2.1
  have k3 := hp.2.2.1.1.1
  refine ⟨fun c => ⟨k1, k2, k3, vq (by unfold k_fct; rw [if_pos c]), rfl⟩, fun c => ⟨fun c1 => ⟨k1, vq (by unfold k_fct; rw [if_neg c, if_pos c1]), rfl⟩, fun c1 => ⟨fun c2 => ⟨k1, vq (by unfold k_fct; rw [if_neg c, if_neg c1, if_pos c2]), rfl⟩, fun c2 => ⟨fun c3 => ⟨k1, vq (by unfold k_fct; rw [if_neg c, if_neg c1, if_neg c2, if_pos c3]), rfl⟩, fun c3 => ⟨fun c4 => ⟨k1, vq (by unfold k_fct; rw [if_neg c, if_neg c1, if_neg c2, if_neg c3, if_pos c4]), rfl⟩, fun c4 => ⟨k1, vq (by unfold k_fct; rw [if_neg c, if_neg c1, if_neg c2, if_neg c3, if_neg c4]), rfl⟩⟩⟩⟩⟩⟩
