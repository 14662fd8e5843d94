/-- a SETT at role a: stripes 0, period 1, turnsBack 2; colours a + 1, counts a + 2, centres a + 3, warp a + 4 -/
def OSt (W : gW) (P : Nat → Int → Nat) (A : Nat → Int → Int) (a : Nat) : Prop := (gK W a = 6 ∧ gK W (a + 1) = 20 ∧ gK W (a + 2) = 20 ∧ gK W (a + 3) = 20 ∧ gK W (a + 4) = 21) ∧ (P a 3 = (a + 1) + 1 ∧ P a 4 = (a + 2) + 1 ∧ P a 5 = (a + 3) + 1 ∧ P a 6 = (a + 4) + 1) ∧ ((1 ≤ A a 0 ∧ A a 0 ≤ 10) ∧ (1 ≤ A a 1 ∧ A a 1 ≤ 400) ∧ (A a 2 = 0 ∨ A a 2 = 1)) ∧ ((gL W (a + 1) : Int) = A a 0 ∧ (gL W (a + 2) : Int) = A a 0 ∧ (gL W (a + 3) : Int) = A a 0 ∧ (gL W (a + 4) : Int) = A a 1) ∧ ∀ k : Int, 0 ≤ k → k < A a 0 → 0 ≤ A (a + 3) k ∧ A (a + 3) k ≤ 10000
def k_col (A : Nat → Int → Int) (a : Nat) (x : Int) : Int := if x < 0 then -1 else A (a + 4) (x % A a 1)
theorem rg_col {A : Nat → Int → Int} (h : RG A) {a : Nat} {x : Int} : Rg (k_col A a x) := rg_ite (by decide) (h _ _)
def k_cen (A : Nat → Int → Int) (a : Nat) (x y s : Int) : Int := if 0 ≤ s ∧ s < A a 0 then x + (A (a + 3) s - y - x) % A a 1 else x
/-- a BOLT at role b: settNumber 1, length 2, flawCount 4; marred b + 1; weave P b 0 -/
def OBt (W : gW) (P : Nat → Int → Nat) (A : Nat → Int → Int) (b : Nat) : Prop := (gK W b = 1 ∧ gK W (b + 1) = 20) ∧ P b 3 = (b + 1) + 1 ∧ gL W (b + 1) = 10 ∧ (0 ≤ A b 4 ∧ A b 4 ≤ 10) ∧ (100 ≤ A b 2 ∧ A b 2 ≤ 9999) ∧ ¬ P b 0 = 0
abbrev k_isF (A : Nat → Int → Int) (b : Nat) (x l : Int) : Prop := isF (A (b + 1)) x l (A b 4).toNat = true
def k_mar_r (A : Nat → Int → Int) (b : Nat) (x : Int) : Int := if 0 ≤ x ∧ x < A b 2 ∧ ¬ k_isF A b x 1 then (if 10 ≤ A b 4 then -4 else A b 4 + 1) else -2
def k_mar_n (A : Nat → Int → Int) (b : Nat) (x : Int) : Nat → Int → Int := if (0 ≤ x ∧ x < A b 2 ∧ ¬ k_isF A b x 1) ∧ ¬ 10 ≤ A b 4 then UA (UA A (b + 1) (A b 4) x) b 4 (A b 4 + 1) else A
theorem rg_mar {W : gW} {P : Nat → Int → Nat} {A : Nat → Int → Int} (h : RG A) {b : Nat} {x : Int} (hx : Rg x) (hb : OBt W P A b) : RG (k_mar_n A b x) := by
  have := hb.2.2.2.1
  unfold k_mar_n
  split
  · exact rg_UA (rg_UA h hx) ⟨by omega, by omega⟩
  · exact h
theorem rg_mar_r {W : gW} {P : Nat → Int → Nat} {A : Nat → Int → Int} {b : Nat} {x : Int} (hb : OBt W P A b) : Rg (k_mar_r A b x) := by
  have := hb.2.2.2.1
  unfold k_mar_r
  refine rg_ite (rg_ite (by decide) ⟨by omega, by omega⟩) (by decide)
/-- a LAYING at role g with room for n PLEATS: over 2, under 3, used 4, moreOver 5, moreUnder 6; starts g + 1, depths g + 2 -/
def OLg (W : gW) (P : Nat → Int → Nat) (g : Nat) (n : Int) : Prop := (gK W g = 5 ∧ gK W (g + 1) = 20 ∧ gK W (g + 2) = 20) ∧ (P g 0 = (g + 1) + 1 ∧ P g 1 = (g + 2) + 1) ∧ (gL W (g + 1) : Int) = n ∧ (gL W (g + 2) : Int) = n ∧ (0 ≤ n ∧ n ≤ 24)
def k_st (A : Nat → Int → Int) (g : Nat) (n k : Int) : Int := if 0 ≤ k ∧ k < n then A (g + 1) k else A g 3
theorem rg_st {A : Nat → Int → Int} (h : RG A) {g : Nat} {n k : Int} : Rg (k_st A g n k) := rg_ite (h _ _) (h _ _)
/-- a KILT at role k, its LAYING at k + 1 -/
def OKi (W : gW) (P : Nat → Int → Nat) (A : Nat → Int → Int) (k : Nat) : Prop := gK W k = 3 ∧ P k 10 = (k + 1) + 1 ∧ OLg W P (k + 1) (A k 4) ∧ (4 ≤ A k 4 ∧ A k 4 ≤ 24) ∧ (0 ≤ A k 8 ∧ A k 8 ≤ 800) ∧ (A k 9 = 0 ∨ A k 9 = 1) ∧ (1 ≤ A k 6 ∧ A k 6 ≤ 300) ∧ (0 ≤ A k 7 ∧ A k 7 ≤ 2400) ∧ (0 ≤ A k 0 ∧ A k 0 ≤ 5) ∧ (-2000 ≤ A k 13 ∧ A k 13 ≤ 2000) ∧ (A k 14 = 0 ∨ A k 14 = 1)
def kls (n T k : Int) : Int := ((k + 1) * T).tdiv n - (k * T).tdiv n
theorem kls_b {n T k : Int} (h1 : 0 ≤ k ∧ k ≤ 24) (h2 : 0 ≤ T ∧ T ≤ 800) (h3 : 0 < n) : -25000 ≤ kls n T k ∧ kls n T k ≤ 25000 := loses_b (A := fun c _ => if c = 19 then T else n) (k := 0) h1 ⟨h2.1, by show T ≤ 1000; omega⟩ h3
theorem rg_kls {W : gW} {P : Nat → Int → Nat} {A : Nat → Int → Int} {a : Nat} {k : Int} (h : OKi W P A a ∧ (0 ≤ k ∧ k ≤ 24)) : Rg (kls (A a 4) (A a 8) k) := by
  obtain ⟨⟨-, -, -, h4, h5, -⟩, h2⟩ := h
  have := kls_b h2 h5 (n := A a 4) (by omega)
  constructor <;> omega
theorem aro_b {W : gW} {P : Nat → Int → Nat} {A : Nat → Int → Int} {a : Nat} (h : OKi W P A a) : -48000 ≤ A a 4 * A a 13 ∧ A a 4 * A a 13 ≤ 48000 := by
  obtain ⟨-, -, -, h4, h5, -, -, -, -, h6, -⟩ := h
  by_cases c : 0 ≤ A a 13
  · have := mul_b (a := A a 4) (b := A a 13) (M := 24) (N := 2000) (by omega) h4.2 c h6.2; omega
  · have := mul_b (a := A a 4) (b := -(A a 13)) (M := 24) (N := 2000) (by omega) h4.2 (by omega) (by omega)
    rw [Int.mul_neg] at this; omega
theorem rg_aro {W : gW} {P : Nat → Int → Nat} {A : Nat → Int → Int} {a : Nat} {x : Int} (h : OKi W P A a) : Rg (A a 4 * A a 13 - (if x = 0 then 0 else A a 8)) := by
  have h1 := aro_b h
  obtain ⟨-, -, -, h4, h5, -⟩ := h
  split <;> constructor <;> omega
theorem vq {x y : Int} (h : x = y) : (some (Value.int (iz x))) = some (.int (iz y)) := by rw [h]
def k_wd (A : Nat → Int → Int) (k : Nat) (t : Int) : Int → Int := fun p => A k 13 - (if t = 0 then 0 else kls (A k 4) (A k 8) p)
def k_shw (A : Nat → Int → Int) (k : Nat) (t : Int) (q : Int × Int) : Int := if q.1 < A k 4 then k_st A (k + 1) (A k 4) q.1 + (if t = 0 then 0 else (kls (A k 4) (A k 8) q.1).tdiv 2) + q.2 else -1
def StB (A : Nat → Int → Int) (k : Nat) : Prop := ∀ j : Int, 0 ≤ k_st A (k + 1) (A k 4) j ∧ k_st A (k + 1) (A k 4) j ≤ 20000
def k_canB (A : Nat → Int → Int) (k b : Nat) (w : Int) : Nat → Int → Bool
  | 0, _ => true
  | r + 1, p => if w ≤ kls (A k 4) (A k 8) p ∨ k_st A (k + 1) (A k 4) (p + 1) < k_st A (k + 1) (A k 4) p + w ∨ k_isF A b (k_st A (k + 1) (A k 4) p) w then false else k_canB A k b w r (p + 1)
theorem V48_0 {d : Nat} (hd : 0 ≤ d) {Q : Option Value → xM → Prop} {W : gW} (hW : HW W) {A : Nat → Int → Int} {P : Nat → Int → Nat} (hR : RG A) (hT : Stat W P) (hG : GL W) {x1 : Int} {a0 : Nat} (rr : Rg x1) (h : (((x1 < 0) → Q (some (.int (iz 0))) (Wm W A P)) ∧ (¬ (x1 < 0) → (gK W a0 = 6) ∧ ((((A a0 0) ≤ x1) → Q (some (.int (iz 0))) (Wm W A P)) ∧ (¬ ((A a0 0) ≤ x1) → Q (some (.int (iz 1))) (Wm W A P)))))) : wpE (xT 48) (xev xT d) Q (0, [(0, .ref (lo W a0)), (1, .int (iz x1))], [], Wm W A P) := by
  refine p_ild (cc3 c48_0) rfl ?_
  refine i_if (c' := x1 < 0) (cc3 c48_1) (c_lt0 rr) (fun c => ?_) (fun c => ?_)
  · have h := h.1 c
    refine p_lc (ls' := []) c48_16 rfl rfl ?_
    refine i_push (n := 0) (cct c48_16 rfl) zl_0 ?_
    exact i_ri (cct c48_17 rfl) (by decide) h
  · have h := h.2 c
    refine p_ild (cc3 c48_4) rfl ?_
    refine p_ald (cc3 c48_5) rfl ?_
    obtain ⟨g1, h⟩ := h
    refine w_geti hW (v := A a0 0) (cc3 c48_6) g1 (ji := 0) rfl rfl ?_
    refine i_icmp (c' := (A a0 0) ≤ x1) (cc3 c48_9) (iz_le (hR a0 0) rr) (fun c => ?_) (fun c => ?_)
    · have h := h.1 c
      refine p_lc (ls' := []) c48_16 rfl rfl ?_
      refine i_push (n := 0) (cct c48_16 rfl) zl_0 ?_
      exact i_ri (cct c48_17 rfl) (by decide) h
    · have h := h.2 c
      refine i_push (n := 1) (cc3 c48_12) zl_1 ?_
      refine p_goto (cc3 c48_13) ?_
      refine p_lc (ls' := []) c48_17 rfl rfl ?_
      exact i_ri (cct c48_17 rfl) (by decide) h
theorem S48 {d : Nat} (hd : 1 ≤ d) {W : gW} (hW : HW W) {A : Nat → Int → Int} {P : Nat → Int → Nat} (hR : RG A) (hT : Stat W P) (hG : GL W) {x1 : Int} {a0 : Nat} (rr : Rg x1) (hp : (gK W a0 = 6)) : xev xT d 48 [.ref (lo W a0), .int (iz x1)] (Wm W A P) (some (.int (iz (bI (0 ≤ x1 ∧ x1 < A a0 0))))) (Wm W A P) := by
  refine xev_i (D := 0) hd (Nat.le_of_ble_eq_true rfl) (fun d hd => V48_0 hd hW hR hT hG rr ?_)
  repeat' (first | refine And.intro ?_ ?_ | intro _)
  all_goals (first | assumption | rfl | omega | (refine congrArg (fun z => some (Value.int (iz z))) ?_; first | omega | exact (bI_f (by omega)).symm | exact (bI_t (by omega)).symm | exact bI_i (by omega)))
theorem V50_0 {d : Nat} (hd : 0 ≤ d) {Q : Option Value → xM → Prop} {W : gW} (hW : HW W) {A : Nat → Int → Int} {P : Nat → Int → Nat} (hR : RG A) (hT : Stat W P) (hG : GL W) {x1 : Int} {a0 : Nat} (rr : Rg x1) (h : (((x1 < 0) → Q (some (.int (iz (-1)))) (Wm W A P)) ∧ (¬ (x1 < 0) → (gK W a0 = 6) ∧ (((1 ≤ (A a0 1)) → (P a0 6 = (a0 + 4) + 1) ∧ (0 < (A a0 1) ∧ (A a0 1) ≤ 2147483647) ∧ (gK W (a0 + 4) = 21) ∧ (0 ≤ (x1.tmod (A a0 1)) ∧ (x1.tmod (A a0 1)) < gL W (a0 + 4) ∧ (x1.tmod (A a0 1)) ≤ 2147483647) ∧ Q (some (.int (iz (A (a0 + 4) (x1.tmod (A a0 1)))))) (Wm W A P)) ∧ (¬ (1 ≤ (A a0 1)) → Q (some (.int (iz (-1)))) (Wm W A P)))))) : wpE (xT 50) (xev xT d) Q (0, [(0, .ref (lo W a0)), (1, .int (iz x1))], [], Wm W A P) := by
  refine p_ild (cc3 c50_0) rfl ?_
  refine i_if (c' := x1 < 0) (cc3 c50_1) (c_lt0 rr) (fun c => ?_) (fun c => ?_)
  · have h := h.1 c
    refine p_lc (ls' := []) c50_12 rfl rfl ?_
    refine i_push (n := (-1)) (cct c50_12 rfl) zl_m1 ?_
    refine p_goto (cc3 c50_13) ?_
    exact p_ri (cct c50_27 rfl) trivial h
  · have h := h.2 c
    refine p_ald (cc3 c50_4) rfl ?_
    obtain ⟨g1, h⟩ := h
    refine w_geti hW (v := A a0 1) (cc3 c50_5) g1 (ji := 1) rfl rfl ?_
    refine i_push (n := 1) (cc3 c50_8) zl_1 ?_
    refine i_icmp (c' := 1 ≤ (A a0 1)) (cc3 c50_9) (iz_le (by decide : Rg (1 : Int)) (hR a0 1)) (fun c => ?_) (fun c => ?_)
    · have h := h.1 c
      refine p_ald (cc3 c50_16) rfl ?_
      obtain ⟨g2, h⟩ := h
      refine w_getp hW hT.1 (b := a0 + 4) (cc3 c50_17) g1 (ji := 6) rfl g2 ?_
      refine p_ild (cc3 c50_20) rfl ?_
      refine p_ald (cc3 c50_21) rfl ?_
      refine w_geti hW (v := A a0 1) (cc3 c50_22) g1 (ji := 1) rfl rfl ?_
      obtain ⟨g3, h⟩ := h
      refine i_rem (cc3 c50_25) rr g3 ?_
      obtain ⟨g4, h⟩ := h
      obtain ⟨g5, h⟩ := h
      refine w_aldi hW (v := A (a0 + 4) (x1.tmod (A a0 1))) (cc3 c50_26) g4 g5 rfl ?_
      refine p_lc (ls' := []) c50_27 rfl rfl ?_
      exact p_ri (cct c50_27 rfl) trivial h
    · have h := h.2 c
      refine p_lc (ls' := []) c50_12 rfl rfl ?_
      refine i_push (n := (-1)) (cct c50_12 rfl) zl_m1 ?_
      refine p_goto (cc3 c50_13) ?_
      exact p_ri (cct c50_27 rfl) trivial h
theorem S50 {d : Nat} (hd : 1 ≤ d) {W : gW} (hW : HW W) {A : Nat → Int → Int} {P : Nat → Int → Nat} (hR : RG A) (hT : Stat W P) (hG : GL W) {x1 : Int} {a0 : Nat} (rr : Rg x1) (hp : (OSt W P A a0)) : xev xT d 50 [.ref (lo W a0), .int (iz x1)] (Wm W A P) (some (.int (iz (k_col A a0 x1)))) (Wm W A P) := by
  refine xev_i (D := 0) hd (Nat.le_of_ble_eq_true rfl) (fun d hd => V50_0 hd hW hR hT hG rr ?_)

  obtain ⟨⟨k1, k2, k3, k4, k5⟩, ⟨q1, q2, q3, q4⟩, ⟨b1, b2, b3⟩, ⟨l1, l2, l3, l4⟩, -⟩ := hp
  refine ⟨fun c => ⟨vq (by unfold k_col; rw [if_pos c]), rfl⟩, fun c => ⟨k1, fun _ => ?_, fun c2 => by omega⟩⟩
  rw [tmod_pos (by omega)]
  have m1 := Int.emod_nonneg x1 (show A a0 1 ≠ 0 by omega)
  have m2 := Int.emod_lt_of_pos x1 (show 0 < A a0 1 by omega)
  exact ⟨q4, by omega, k5, ⟨by omega, by omega, by omega⟩, vq (by unfold k_col; rw [if_neg c]), rfl⟩
theorem V71_0 {d : Nat} (hd : 1 ≤ d) {Q : Option Value → xM → Prop} {W : gW} (hW : HW W) {A : Nat → Int → Int} {P : Nat → Int → Nat} (hR : RG A) (hT : Stat W P) (hG : GL W) {x1 x2 x3 : Int} {a0 : Nat} (rr : Rg x1 ∧ Rg x2 ∧ Rg x3) (h : (gK W a0 = 6) ∧ ((¬ (0 ≤ x3 ∧ x3 < A a0 0) → Q (some (.int (iz x1))) (Wm W A P)) ∧ ((0 ≤ x3 ∧ x3 < A a0 0) → (((1 ≤ (A a0 1)) → (P a0 5 = (a0 + 3) + 1) ∧ (gK W (a0 + 3) = 20) ∧ (0 ≤ x3 ∧ x3 < gL W (a0 + 3) ∧ x3 ≤ 2147483647) ∧ (Rg ((A (a0 + 3) x3) - x2)) ∧ (Rg (((A (a0 + 3) x3) - x2) - x1)) ∧ (0 < (A a0 1) ∧ (A a0 1) ≤ 1000000000) ∧ (Rg (x1 + ((((A (a0 + 3) x3) - x2) - x1) % (A a0 1)))) ∧ Q (some (.int (iz (x1 + ((((A (a0 + 3) x3) - x2) - x1) % (A a0 1)))))) (Wm W A P)) ∧ (¬ (1 ≤ (A a0 1)) → Q (some (.int (iz x1))) (Wm W A P)))))) : wpE (xT 71) (xev xT d) Q (0, [(0, .ref (lo W a0)), (1, .int (iz x1)), (2, .int (iz x2)), (3, .int (iz x3))], [], Wm W A P) := by
  refine p_ald (cc3 c71_0) rfl ?_
  refine p_ild (cc3 c71_1) rfl ?_
  obtain ⟨g1, h⟩ := h
  refine p_callV (cc3 c71_2) (Nat.le_of_ble_eq_true rfl) rfl rfl (Nat.le_of_ble_eq_true rfl) (wk_kd hW (by decide) g1) (S48 (Nat.le_trans (by decide) hd) hW hR hT hG rr.2.2 g1) ?_
  refine i_ifB (cc3 c71_5) (fun c => ?_) (fun c => ?_)
  · have h := h.1 c
    refine p_lc (ls' := [(1, .int (iz x1))]) c71_16 rfl rfl ?_
    refine p_ild (cct c71_16 rfl) rfl ?_
    exact p_ri (cc3 c71_17) trivial h
  · have h := h.2 c
    refine p_ald (cc3 c71_8) rfl ?_
    refine w_geti hW (v := A a0 1) (cc3 c71_9) g1 (ji := 1) rfl rfl ?_
    refine i_push (n := 1) (cc3 c71_12) zl_1 ?_
    refine i_icmp (c' := 1 ≤ (A a0 1)) (cc3 c71_13) (iz_le (by decide : Rg (1 : Int)) (hR a0 1)) (fun c => ?_) (fun c => ?_)
    · have h := h.1 c
      refine p_ild (cc3 c71_18) rfl ?_
      refine p_ald (cc3 c71_19) rfl ?_
      obtain ⟨g2, h⟩ := h
      refine w_getp hW hT.1 (b := a0 + 3) (cc3 c71_20) g1 (ji := 5) rfl g2 ?_
      refine p_ild (cc3 c71_23) rfl ?_
      obtain ⟨g3, h⟩ := h
      obtain ⟨g4, h⟩ := h
      refine w_aldi hW (v := A (a0 + 3) x3) (cc3 c71_24) g3 g4 rfl ?_
      refine p_ild (cc3 c71_25) rfl ?_
      obtain ⟨g5, h⟩ := h
      refine (fun _ : Rg ((A (a0 + 3) x3) - x2) => i_sub (cc3 c71_26) ?_) g5
      refine p_ild (cc3 c71_27) rfl ?_
      obtain ⟨g6, h⟩ := h
      refine (fun _ : Rg (((A (a0 + 3) x3) - x2) - x1) => i_sub (cc3 c71_28) ?_) g6
      refine p_ald (cc3 c71_29) rfl ?_
      refine w_geti hW (v := A a0 1) (cc3 c71_30) g1 (ji := 1) rfl rfl ?_
      obtain ⟨g7, h⟩ := h
      refine p_callS (cc3 c71_33) (Nat.le_of_ble_eq_true rfl) rfl rfl (Nat.le_of_ble_eq_true rfl) (S72 (Nat.le_trans (by decide) hd) ⟨g6, (hR a0 1)⟩ g7) ?_
      obtain ⟨g8, h⟩ := h
      refine (fun _ : Rg (x1 + ((((A (a0 + 3) x3) - x2) - x1) % (A a0 1))) => i_add (cc3 c71_36) ?_) g8
      exact p_ri (cc3 c71_37) trivial h
    · have h := h.2 c
      refine p_lc (ls' := [(1, .int (iz x1))]) c71_16 rfl rfl ?_
      refine p_ild (cct c71_16 rfl) rfl ?_
      exact p_ri (cc3 c71_17) trivial h

theorem rg_cen {W : gW} {P : Nat → Int → Nat} {A : Nat → Int → Int} {a : Nat} {x y s : Int} (h : OSt W P A a ∧ (0 ≤ x ∧ x ≤ 1000000) ∧ (0 ≤ y ∧ y ≤ 1000000)) : Rg (k_cen A a x y s) := by
  obtain ⟨⟨-, -, ⟨-, b2, -⟩, -⟩, h2, -⟩ := h
  have m1 := Int.emod_nonneg (A (a + 3) s - y - x) (show A a 1 ≠ 0 by omega)
  have m2 := Int.emod_lt_of_pos (A (a + 3) s - y - x) (show 0 < A a 1 by omega)
  unfold k_cen
  split <;> constructor <;> omega
theorem S71 {d : Nat} (hd : 2 ≤ d) {W : gW} (hW : HW W) {A : Nat → Int → Int} {P : Nat → Int → Nat} (hR : RG A) (hT : Stat W P) (hG : GL W) {x1 x2 x3 : Int} {a0 : Nat} (rr : Rg x1 ∧ Rg x2 ∧ Rg x3) (hp : (OSt W P A a0) ∧ (0 ≤ x1 ∧ x1 ≤ 1000000) ∧ (0 ≤ x2 ∧ x2 ≤ 1000000)) : xev xT d 71 [.ref (lo W a0), .int (iz x1), .int (iz x2), .int (iz x3)] (Wm W A P) (some (.int (iz (k_cen A a0 x1 x2 x3)))) (Wm W A P) := by
  refine xev_i (D := 1) hd (Nat.le_of_ble_eq_true rfl) (fun d hd => V71_0 hd hW hR hT hG rr ?_)

  obtain ⟨⟨⟨k1, k2, k3, k4, k5⟩, ⟨q1, q2, q3, q4⟩, ⟨b1, b2, b3⟩, ⟨l1, l2, l3, l4⟩, hc⟩, p2, p3⟩ := hp
  refine ⟨k1, fun c => ⟨vq (by unfold k_cen; rw [if_neg c]), rfl⟩, fun c => ⟨fun _ => ?_, fun c2 => by omega⟩⟩
  have m1 := Int.emod_nonneg (A (a0 + 3) x3 - x2 - x1) (show A a0 1 ≠ 0 by omega)
  have m2 := Int.emod_lt_of_pos (A (a0 + 3) x3 - x2 - x1) (show 0 < A a0 1 by omega)
  have h3 := hc x3 c.1 c.2
  exact ⟨q3, k4, ⟨by omega, by omega, by omega⟩, ⟨by omega, by omega⟩, ⟨by omega, by omega⟩, by omega, ⟨by omega, by omega⟩, vq (by unfold k_cen; rw [if_pos c]), rfl⟩
theorem V56_0 {d : Nat} (hd : 0 ≤ d) {Q : Option Value → xM → Prop} {W : gW} (hW : HW W) {A : Nat → Int → Int} {P : Nat → Int → Nat} (hR : RG A) (hT : Stat W P) (hG : GL W) {x1 x2 : Int} {a0 : Nat} (rr : Rg x1 ∧ Rg x2) (h : wpE (xT 56) (xev xT d) Q (2, [(0, .ref (lo W a0)), (1, .int (iz x1)), (2, .int (iz x2)), (3, .int (iz 0))], [], Wm W A P)) : wpE (xT 56) (xev xT d) Q (0, [(0, .ref (lo W a0)), (1, .int (iz x1)), (2, .int (iz x2))], [], Wm W A P) := by
  refine i_push (n := 0) (cc3 c56_0) zl_0 ?_
  refine p_ist (ls' := [(3, .int (iz 0)), (0, .ref (lo W a0)), (1, .int (iz x1)), (2, .int (iz x2))]) (cc3 c56_1) (by decide) rfl ?_
  exact p_lc (ls' := [(0, .ref (lo W a0)), (1, .int (iz x1)), (2, .int (iz x2)), (3, .int (iz 0))]) c56_2 rfl rfl h
theorem V56_2 {d : Nat} (hd : 0 ≤ d) {Q : Option Value → xM → Prop} {W : gW} (hW : HW W) {A : Nat → Int → Int} {P : Nat → Int → Nat} (hR : RG A) (hT : Stat W P) (hG : GL W) {x1 x2 x3 : Int} {a0 : Nat} (rr : Rg x1 ∧ Rg x2 ∧ Rg x3) (h : (gK W a0 = 1) ∧ ((((A a0 4) ≤ x3) → Q (some (.int (iz 1))) (Wm W A P)) ∧ (¬ ((A a0 4) ≤ x3) → (((10 ≤ x3) → Q (some (.int (iz 1))) (Wm W A P)) ∧ (¬ (10 ≤ x3) → (P a0 3 = (a0 + 1) + 1) ∧ (gK W (a0 + 1) = 20) ∧ (0 ≤ x3 ∧ x3 < gL W (a0 + 1) ∧ x3 ≤ 2147483647) ∧ ((((A (a0 + 1) x3) < x1) → (Rg (x3 + 1)) ∧ wpE (xT 56) (xev xT d) Q (2, [(0, .ref (lo W a0)), (1, .int (iz x1)), (2, .int (iz x2)), (3, .int (iz (x3 + 1)))], [], Wm W A P)) ∧ (¬ ((A (a0 + 1) x3) < x1) → (Rg (x1 + x2)) ∧ ((((x1 + x2) ≤ (A (a0 + 1) x3)) → (Rg (x3 + 1)) ∧ wpE (xT 56) (xev xT d) Q (2, [(0, .ref (lo W a0)), (1, .int (iz x1)), (2, .int (iz x2)), (3, .int (iz (x3 + 1)))], [], Wm W A P)) ∧ (¬ ((x1 + x2) ≤ (A (a0 + 1) x3)) → Q (some (.int (iz 0))) (Wm W A P)))))))))) : wpE (xT 56) (xev xT d) Q (2, [(0, .ref (lo W a0)), (1, .int (iz x1)), (2, .int (iz x2)), (3, .int (iz x3))], [], Wm W A P) := by
  refine p_ild (cct c56_2 rfl) rfl ?_
  refine p_ald (cc3 c56_3) rfl ?_
  obtain ⟨g1, h⟩ := h
  refine w_geti hW (v := A a0 4) (cc3 c56_4) g1 (ji := 4) rfl rfl ?_
  refine i_icmp (c' := (A a0 4) ≤ x3) (cc3 c56_7) (iz_le (hR a0 4) rr.2.2) (fun c => ?_) (fun c => ?_)
  · have h := h.1 c
    refine p_lc (ls' := []) c56_46 rfl rfl ?_
    refine i_push (n := 1) (cct c56_46 rfl) zl_1 ?_
    exact i_ri (cc3 c56_47) (by decide) h
  · have h := h.2 c
    refine p_ild (cc3 c56_10) rfl ?_
    refine i_push (n := 10) (cc3 c56_11) zl_10 ?_
    refine i_icmp (c' := 10 ≤ x3) (cc3 c56_13) (iz_le (by decide : Rg (10 : Int)) rr.2.2) (fun c => ?_) (fun c => ?_)
    · have h := h.1 c
      refine p_lc (ls' := []) c56_46 rfl rfl ?_
      refine i_push (n := 1) (cct c56_46 rfl) zl_1 ?_
      exact i_ri (cc3 c56_47) (by decide) h
    · have h := h.2 c
      refine p_ald (cc3 c56_16) rfl ?_
      obtain ⟨g2, h⟩ := h
      refine w_getp hW hT.1 (b := a0 + 1) (cc3 c56_17) g1 (ji := 3) rfl g2 ?_
      refine p_ild (cc3 c56_20) rfl ?_
      obtain ⟨g3, h⟩ := h
      obtain ⟨g4, h⟩ := h
      refine w_aldi hW (v := A (a0 + 1) x3) (cc3 c56_21) g3 g4 rfl ?_
      refine p_ild (cc3 c56_22) rfl ?_
      refine i_icmp (c' := (A (a0 + 1) x3) < x1) (cc3 c56_23) (iz_lt (hR (a0 + 1) x3) rr.1) (fun c => ?_) (fun c => ?_)
      · have h := h.1 c
        obtain ⟨g5, h⟩ := h
        refine (fun _ : Rg (x3 + 1) => i_iinc (n := 1) (y := x3 + 1) (ls' := [(3, .int (iz (x3 + 1))), (0, .ref (lo W a0)), (1, .int (iz x1)), (2, .int (iz x2))]) (cct c56_40 rfl) (by decide) rfl zl_1 (by first | rfl | omega) rfl ?_) g5
        refine p_goto (cc3 c56_43) ?_
        exact p_lc (ls' := [(0, .ref (lo W a0)), (1, .int (iz x1)), (2, .int (iz x2)), (3, .int (iz (x3 + 1)))]) c56_2 rfl rfl h
      · have h := h.2 c
        refine p_ald (cc3 c56_26) rfl ?_
        refine w_getp hW hT.1 (b := a0 + 1) (cc3 c56_27) g1 (ji := 3) rfl g2 ?_
        refine p_ild (cc3 c56_30) rfl ?_
        refine w_aldi hW (v := A (a0 + 1) x3) (cc3 c56_31) g3 g4 rfl ?_
        refine p_ild (cc3 c56_32) rfl ?_
        refine p_ild (cc3 c56_33) rfl ?_
        obtain ⟨g5, h⟩ := h
        refine (fun _ : Rg (x1 + x2) => i_add (cc3 c56_34) ?_) g5
        refine i_icmp (c' := (x1 + x2) ≤ (A (a0 + 1) x3)) (cc3 c56_35) (iz_le g5 (hR (a0 + 1) x3)) (fun c => ?_) (fun c => ?_)
        · have h := h.1 c
          obtain ⟨g6, h⟩ := h
          refine (fun _ : Rg (x3 + 1) => i_iinc (n := 1) (y := x3 + 1) (ls' := [(3, .int (iz (x3 + 1))), (0, .ref (lo W a0)), (1, .int (iz x1)), (2, .int (iz x2))]) (cct c56_40 rfl) (by decide) rfl zl_1 (by first | rfl | omega) rfl ?_) g6
          refine p_goto (cc3 c56_43) ?_
          exact p_lc (ls' := [(0, .ref (lo W a0)), (1, .int (iz x1)), (2, .int (iz x2)), (3, .int (iz (x3 + 1)))]) c56_2 rfl rfl h
        · have h := h.2 c
          refine i_push (n := 0) (cc3 c56_38) zl_0 ?_
          exact i_ri (cc3 c56_39) (by decide) h

theorem L56 {d : Nat} (hd : 0 ≤ d) {Q : Option Value → xM → Prop} {W : gW} (hW : HW W) {A : Nat → Int → Int} {P : Nat → Int → Nat} (hR : RG A) (hT : Stat W P) (hG : GL W) {b : Nat} {x l : Int} (rr : Rg x ∧ Rg l) (hp : OBt W P A b) (hxl : Rg (x + l)) (hQ : Q (some (.int (iz (bI (¬ k_isF A b x l))))) (Wm W A P)) :
    ∀ n k : Nat, (k : Int) + n = A b 4 → ¬ isF (A (b + 1)) x l k = true → wpE (xT 56) (xev xT d) Q (2, [(0, .ref (lo W b)), (1, .int (iz x)), (2, .int (iz l)), (3, .int (iz k))], [], Wm W A P) := by
  obtain ⟨⟨k1, k2⟩, k3, k4, k5, k6, k7⟩ := hp
  intro n
  induction n with
  | zero =>
    intro k hk hs
    have e : k = (A b 4).toNat := by omega
    rw [bI_t (by unfold k_isF; rw [← e]; exact hs)] at hQ
    exact V56_2 hd hW hR hT hG ⟨rr.1, rr.2, by omega, by omega⟩ ⟨k1, fun _ => hQ, fun c => absurd (by omega) c⟩
  | succ n ih =>
    intro k hk hs
    have nx : ¬ (x ≤ A (b + 1) k ∧ A (b + 1) k < x + l) → wpE (xT 56) (xev xT d) Q (2, [(0, .ref (lo W b)), (1, .int (iz x)), (2, .int (iz l)), (3, .int (iz ((k : Int) + 1)))], [], Wm W A P) := fun c => ih (k + 1) (by omega) (by rw [isF_s]; rintro (q | q); exact hs q; exact c q)
    refine V56_2 hd hW hR hT hG ⟨rr.1, rr.2, by omega, by omega⟩ ⟨k1, fun c => absurd c (by omega), fun _ => ⟨fun c => absurd c (by omega), fun _ => ⟨k3, k2, by omega, fun c => ⟨⟨by omega, by omega⟩, nx (by omega)⟩, fun c => ⟨hxl, fun c2 => ⟨⟨by omega, by omega⟩, nx (by omega)⟩, fun c2 => ?_⟩⟩⟩⟩
    rw [bI_f (fun q => q (isF_iff.mpr ⟨k, by omega, by omega, by omega⟩))] at hQ
    exact hQ
theorem S56 {d : Nat} (hd : 1 ≤ d) {W : gW} (hW : HW W) {A : Nat → Int → Int} {P : Nat → Int → Nat} (hR : RG A) (hT : Stat W P) (hG : GL W) {x1 x2 : Int} {a0 : Nat} (rr : Rg x1 ∧ Rg x2) (hp : (OBt W P A a0) ∧ (Rg (x1 + x2))) : xev xT d 56 [.ref (lo W a0), .int (iz x1), .int (iz x2)] (Wm W A P) (some (.int (iz (bI (¬ k_isF A a0 x1 x2))))) (Wm W A P) := by
  refine xev_i (D := 0) hd (Nat.le_of_ble_eq_true rfl) (fun d hd => V56_0 hd hW hR hT hG rr ?_)

  exact L56 (Nat.zero_le _) hW hR hT hG rr hp.1 hp.2 ⟨rfl, rfl⟩ (A a0 4).toNat 0 (by have := hp.1.2.2.2.1; omega) (by simp [isF])
theorem V55_0 {d : Nat} (hd : 1 ≤ d) {Q : Option Value → xM → Prop} {W : gW} (hW : HW W) {A : Nat → Int → Int} {P : Nat → Int → Nat} (hR : RG A) (hT : Stat W P) (hG : GL W) {x1 : Int} {a0 : Nat} (rr : Rg x1) (h : (((x1 < 0) → Q (some (.int (iz (-2)))) (Wm W A P)) ∧ (¬ (x1 < 0) → (gK W a0 = 1) ∧ ((((A a0 2) ≤ x1) → Q (some (.int (iz (-2)))) (Wm W A P)) ∧ (¬ ((A a0 2) ≤ x1) → (OBt W P A a0) ∧ (Rg (x1 + (1 : Int))) ∧ ((¬ (¬ k_isF A a0 x1 1) → Q (some (.int (iz (-2)))) (Wm W A P)) ∧ ((¬ k_isF A a0 x1 1) → ((((A a0 4) < 10) → (P a0 3 = (a0 + 1) + 1) ∧ (gK W (a0 + 1) = 20) ∧ (0 ≤ (A a0 4) ∧ (A a0 4) < gL W (a0 + 1) ∧ (A a0 4) ≤ 2147483647) ∧ (Rg (((UA A (a0 + 1) (A a0 4) x1) a0 4) + 1)) ∧ Q (some (.int (iz (((UA A (a0 + 1) (A a0 4) x1) a0 4) + 1)))) (Wm W (UA (UA A (a0 + 1) (A a0 4) x1) a0 4 (((UA A (a0 + 1) (A a0 4) x1) a0 4) + 1)) P)) ∧ (¬ ((A a0 4) < 10) → Q (some (.int (iz (-4)))) (Wm W A P)))))))))) : wpE (xT 55) (xev xT d) Q (0, [(0, .ref (lo W a0)), (1, .int (iz x1))], [], Wm W A P) := by
  refine p_ild (cc3 c55_0) rfl ?_
  refine i_if (c' := x1 < 0) (cc3 c55_1) (c_lt0 rr) (fun c => ?_) (fun c => ?_)
  · have h := h.1 c
    refine p_lc (ls' := []) c55_21 rfl rfl ?_
    refine i_push (n := (-2)) (cct c55_21 rfl) zl_m2 ?_
    exact p_ri (cc3 c55_23) trivial h
  · have h := h.2 c
    refine p_ild (cc3 c55_4) rfl ?_
    refine p_ald (cc3 c55_5) rfl ?_
    obtain ⟨g1, h⟩ := h
    refine w_geti hW (v := A a0 2) (cc3 c55_6) g1 (ji := 2) rfl rfl ?_
    refine i_icmp (c' := (A a0 2) ≤ x1) (cc3 c55_9) (iz_le (hR a0 2) rr) (fun c => ?_) (fun c => ?_)
    · have h := h.1 c
      refine p_lc (ls' := []) c55_21 rfl rfl ?_
      refine i_push (n := (-2)) (cct c55_21 rfl) zl_m2 ?_
      exact p_ri (cc3 c55_23) trivial h
    · have h := h.2 c
      refine p_ald (cc3 c55_12) rfl ?_
      refine p_ild (cc3 c55_13) rfl ?_
      refine i_push (n := 1) (cc3 c55_14) zl_1 ?_
      obtain ⟨g2, h⟩ := h
      obtain ⟨g3, h⟩ := h
      refine p_callV (cc3 c55_15) (Nat.le_of_ble_eq_true rfl) rfl rfl (Nat.le_of_ble_eq_true rfl) (wk_kd hW (by decide) g1) (S56 (Nat.le_trans (by decide) hd) hW hR hT hG ⟨rr, (by decide : Rg (1 : Int))⟩ ⟨g2, g3⟩) ?_
      refine i_ifB (cc3 c55_18) (fun c => ?_) (fun c => ?_)
      · have h := h.1 c
        refine p_lc (ls' := []) c55_21 rfl rfl ?_
        refine i_push (n := (-2)) (cct c55_21 rfl) zl_m2 ?_
        exact p_ri (cc3 c55_23) trivial h
      · have h := h.2 c
        refine p_ald (cc3 c55_24) rfl ?_
        refine w_geti hW (v := A a0 4) (cc3 c55_25) g1 (ji := 4) rfl rfl ?_
        refine i_push (n := 10) (cc3 c55_28) zl_10 ?_
        refine i_icmp (c' := (A a0 4) < 10) (cc3 c55_30) (iz_lt (hR a0 4) (by decide : Rg (10 : Int))) (fun c => ?_) (fun c => ?_)
        · have h := h.1 c
          refine p_ald (cc3 c55_36) rfl ?_
          obtain ⟨g4, h⟩ := h
          refine w_getp hW hT.1 (b := a0 + 1) (cc3 c55_37) g1 (ji := 3) rfl g4 ?_
          refine p_ald (cc3 c55_40) rfl ?_
          refine w_geti hW (v := A a0 4) (cc3 c55_41) g1 (ji := 4) rfl rfl ?_
          refine p_ild (cc3 c55_44) rfl ?_
          obtain ⟨g5, h⟩ := h
          obtain ⟨g6, h⟩ := h
          refine id (α := Rg x1 → _) (fun _ => ?_) rr; refine w_asti hW (cc3 c55_45) g5 g6 rfl ?_
          refine p_ald (cc3 c55_46) rfl ?_
          refine p_dup (cc3 c55_47) rfl ?_
          refine w_geti hW (v := (UA A (a0 + 1) (A a0 4) x1) a0 4) (cc3 c55_48) g1 (ji := 4) rfl (by first | rfl | exact UA_eq | exact UA_j (by decide) | exact UA_c (by decide)) ?_
          refine i_push (n := 1) (cc3 c55_51) zl_1 ?_
          obtain ⟨g7, h⟩ := h
          refine (fun _ : Rg (((UA A (a0 + 1) (A a0 4) x1) a0 4) + 1) => i_add (cc3 c55_52) ?_) g7
          refine id (α := Rg (((UA A (a0 + 1) (A a0 4) x1) a0 4) + 1) → _) (fun _ => ?_) g7; refine w_puti hW (cc3 c55_53) g1 (ji := 4) rfl ?_
          refine p_ald (cc3 c55_56) rfl ?_
          refine w_geti hW (v := ((UA A (a0 + 1) (A a0 4) x1) a0 4) + 1) (cc3 c55_57) g1 (ji := 4) rfl (by first | rfl | exact UA_eq | exact UA_j (by decide) | exact UA_c (by decide)) ?_
          exact p_ri (cc3 c55_60) trivial h
        · have h := h.2 c
          refine i_push (n := (-4)) (cc3 c55_33) zl_m4 ?_
          exact p_ri (cc3 c55_35) trivial h
theorem S55 {d : Nat} (hd : 2 ≤ d) {W : gW} (hW : HW W) {A : Nat → Int → Int} {P : Nat → Int → Nat} (hR : RG A) (hT : Stat W P) (hG : GL W) {x1 : Int} {a0 : Nat} (rr : Rg x1) (hp : (OBt W P A a0)) : xev xT d 55 [.ref (lo W a0), .int (iz x1)] (Wm W A P) (some (.int (iz (k_mar_r A a0 x1)))) (Wm W (k_mar_n A a0 x1) P) := by
  refine xev_i (D := 1) hd (Nat.le_of_ble_eq_true rfl) (fun d hd => V55_0 hd hW hR hT hG rr ?_)

  have hp' := hp
  obtain ⟨⟨k1, k2⟩, k3, k4, k5, k6, k7⟩ := hp'
  have bad : ¬ (0 ≤ x1 ∧ x1 < A a0 2 ∧ ¬ k_isF A a0 x1 1) → (some (Value.int (iz (-2))) = some (.int (iz (k_mar_r A a0 x1))) ∧ Wm W A P = Wm W (k_mar_n A a0 x1) P) := fun c => ⟨vq (by unfold k_mar_r; rw [if_neg c]), by unfold k_mar_n; rw [if_neg (fun q => c q.1)]⟩
  have e4 : UA A (a0 + 1) (A a0 4) x1 a0 4 = A a0 4 := UA_c (by omega)
  refine ⟨fun c => bad (by omega), fun c => ⟨k1, fun c2 => bad (by omega), fun c2 => ⟨hp, ⟨by omega, by omega⟩, fun c3 => bad (fun q => c3 q.2.2), fun c3 => ⟨fun c4 => ?_, fun c4 => ?_⟩⟩⟩⟩
  · rw [e4]
    exact ⟨k3, k2, by omega, ⟨by omega, by omega⟩, vq (by unfold k_mar_r; rw [if_pos ⟨by omega, by omega, c3⟩, if_neg (by omega)]), by unfold k_mar_n; rw [if_pos ⟨⟨by omega, by omega, c3⟩, by omega⟩]⟩
  · exact ⟨vq (by unfold k_mar_r; rw [if_pos ⟨by omega, by omega, c3⟩, if_pos (by omega)]), by unfold k_mar_n; rw [if_neg (fun q => q.2 (by omega))]⟩
theorem V89_0 {d : Nat} (hd : 0 ≤ d) {Q : Option Value → xM → Prop} {W : gW} (hW : HW W) {A : Nat → Int → Int} {P : Nat → Int → Nat} (hR : RG A) (hT : Stat W P) (hG : GL W) {x1 : Int} {a0 : Nat} (rr : Rg x1) (h : (((x1 < 0) → (gK W a0 = 5) ∧ Q (some (.int (iz (A a0 3)))) (Wm W A P)) ∧ (¬ (x1 < 0) → (gK W a0 = 5) ∧ (P a0 0 = (a0 + 1) + 1) ∧ (gK W (a0 + 1) = 20) ∧ (Rg (gL W (a0 + 1) : Int)) ∧ (((x1 < (gL W (a0 + 1) : Int)) → (0 ≤ x1 ∧ x1 < gL W (a0 + 1) ∧ x1 ≤ 2147483647) ∧ Q (some (.int (iz (A (a0 + 1) x1)))) (Wm W A P)) ∧ (¬ (x1 < (gL W (a0 + 1) : Int)) → Q (some (.int (iz (A a0 3)))) (Wm W A P)))))) : wpE (xT 89) (xev xT d) Q (0, [(0, .ref (lo W a0)), (1, .int (iz x1))], [], Wm W A P) := by
  refine p_ild (cc3 c89_0) rfl ?_
  refine i_if (c' := x1 < 0) (cc3 c89_1) (c_lt0 rr) (fun c => ?_) (fun c => ?_)
  · have h := h.1 c
    refine p_lc (ls' := [(0, .ref (lo W a0))]) c89_13 rfl rfl ?_
    refine p_ald (cct c89_13 rfl) rfl ?_
    obtain ⟨g1, h⟩ := h
    refine w_geti hW (v := A a0 3) (cc3 c89_14) g1 (ji := 3) rfl rfl ?_
    refine p_goto (cc3 c89_17) ?_
    refine p_lc (ls' := []) c89_26 rfl rfl ?_
    exact p_ri (cct c89_26 rfl) trivial h
  · have h := h.2 c
    refine p_ild (cc3 c89_4) rfl ?_
    refine p_ald (cc3 c89_5) rfl ?_
    obtain ⟨g1, h⟩ := h
    obtain ⟨g2, h⟩ := h
    refine w_getp hW hT.1 (b := a0 + 1) (cc3 c89_6) g1 (ji := 0) rfl g2 ?_
    obtain ⟨g3, h⟩ := h
    refine w_len hW (cc3 c89_9) g3 ?_
    obtain ⟨g4, h⟩ := h
    refine i_icmp (c' := x1 < (gL W (a0 + 1) : Int)) (cc3 c89_10) (iz_lt rr g4) (fun c => ?_) (fun c => ?_)
    · have h := h.1 c
      refine p_ald (cc3 c89_20) rfl ?_
      refine w_getp hW hT.1 (b := a0 + 1) (cc3 c89_21) g1 (ji := 0) rfl g2 ?_
      refine p_ild (cc3 c89_24) rfl ?_
      obtain ⟨g5, h⟩ := h
      refine w_aldi hW (v := A (a0 + 1) x1) (cc3 c89_25) g3 g5 rfl ?_
      refine p_lc (ls' := []) c89_26 rfl rfl ?_
      exact p_ri (cct c89_26 rfl) trivial h
    · have h := h.2 c
      refine p_lc (ls' := [(0, .ref (lo W a0))]) c89_13 rfl rfl ?_
      refine p_ald (cct c89_13 rfl) rfl ?_
      refine w_geti hW (v := A a0 3) (cc3 c89_14) g1 (ji := 3) rfl rfl ?_
      refine p_goto (cc3 c89_17) ?_
      refine p_lc (ls' := []) c89_26 rfl rfl ?_
      exact p_ri (cct c89_26 rfl) trivial h
theorem S89 {d : Nat} (hd : 1 ≤ d) {W : gW} (hW : HW W) {A : Nat → Int → Int} {P : Nat → Int → Nat} (hR : RG A) (hT : Stat W P) (hG : GL W) (n : Int) {x1 : Int} {a0 : Nat} (rr : Rg x1) (hp : (OLg W P a0 n)) : xev xT d 89 [.ref (lo W a0), .int (iz x1)] (Wm W A P) (some (.int (iz (k_st A a0 n x1)))) (Wm W A P) := by
  refine xev_i (D := 0) hd (Nat.le_of_ble_eq_true rfl) (fun d hd => V89_0 hd hW hR hT hG rr ?_)

  obtain ⟨⟨k1, k2, k3⟩, ⟨q1, q2⟩, l1, l2, l3⟩ := hp
  have hl := l1
  refine ⟨fun c => ⟨k1, vq (by unfold k_st; rw [if_neg (by omega)]), rfl⟩, fun c => ⟨k1, q1, k2, ?_, fun c2 => ⟨by omega, vq (by unfold k_st; rw [if_pos (by omega)]), rfl⟩, fun c2 => ⟨vq (by unfold k_st; rw [if_neg (by omega)]), rfl⟩⟩⟩
  exact ⟨by omega, by omega⟩
theorem V91_0 {d : Nat} (hd : 1 ≤ d) {Q : Option Value → xM → Prop} {n : Int} {W : gW} (hW : HW W) {A : Nat → Int → Int} {P : Nat → Int → Nat} (hR : RG A) (hT : Stat W P) (hG : GL W) {x1 : Int} {a0 : Nat} (rr : Rg x1) (h : (Rg (x1 + 1)) ∧ (OLg W P a0 n) ∧ (gK W a0 = 5) ∧ Q (some (.int (iz (k_st A a0 n (x1 + 1))))) (Wm W A P)) : wpE (xT 91) (xev xT d) Q (0, [(0, .ref (lo W a0)), (1, .int (iz x1))], [], Wm W A P) := by
  refine p_ald (cc3 c91_0) rfl ?_
  refine p_ild (cc3 c91_1) rfl ?_
  refine i_push (n := 1) (cc3 c91_2) zl_1 ?_
  obtain ⟨g1, h⟩ := h
  refine (fun _ : Rg (x1 + 1) => i_add (cc3 c91_3) ?_) g1
  obtain ⟨g2, h⟩ := h
  obtain ⟨g3, h⟩ := h
  refine p_callV (cc3 c91_4) (Nat.le_of_ble_eq_true rfl) rfl rfl (Nat.le_of_ble_eq_true rfl) (wk_kd hW (by decide) g3) (S89 (Nat.le_trans (by decide) hd) hW hR hT hG n g1 g2) ?_
  exact p_ri (cc3 c91_7) trivial h
theorem S91 {d : Nat} (hd : 2 ≤ d) {W : gW} (hW : HW W) {A : Nat → Int → Int} {P : Nat → Int → Nat} (hR : RG A) (hT : Stat W P) (hG : GL W) (n : Int) {x1 : Int} {a0 : Nat} (rr : Rg x1) (hp : (OLg W P a0 n) ∧ (Rg (x1 + 1))) : xev xT d 91 [.ref (lo W a0), .int (iz x1)] (Wm W A P) (some (.int (iz (k_st A a0 n (x1 + 1))))) (Wm W A P) := by
  refine xev_i (D := 1) hd (Nat.le_of_ble_eq_true rfl) (fun d hd => V91_0 hd hW hR hT hG (n := n) rr ?_)

  exact ⟨hp.2, hp.1, hp.1.1.1, rfl, rfl⟩
theorem V90_0 {d : Nat} (hd : 0 ≤ d) {Q : Option Value → xM → Prop} {W : gW} (hW : HW W) {A : Nat → Int → Int} {P : Nat → Int → Nat} (hR : RG A) (hT : Stat W P) (hG : GL W) {x1 : Int} {a0 : Nat} (rr : Rg x1) (h : (((x1 < 0) → Q (some (.int (iz (-1)))) (Wm W A P)) ∧ (¬ (x1 < 0) → (gK W a0 = 5) ∧ (P a0 1 = (a0 + 2) + 1) ∧ (gK W (a0 + 2) = 20) ∧ (Rg ((gL W (a0 + 2) : Int) - 1)) ∧ (((x1 < ((gL W (a0 + 2) : Int) - 1)) → (0 ≤ x1 ∧ x1 < gL W (a0 + 2) ∧ x1 ≤ 2147483647) ∧ Q (some (.int (iz (A (a0 + 2) x1)))) (Wm W A P)) ∧ (¬ (x1 < ((gL W (a0 + 2) : Int) - 1)) → Q (some (.int (iz (-1)))) (Wm W A P)))))) : wpE (xT 90) (xev xT d) Q (0, [(0, .ref (lo W a0)), (1, .int (iz x1))], [], Wm W A P) := by
  refine p_ild (cc3 c90_0) rfl ?_
  refine i_if (c' := x1 < 0) (cc3 c90_1) (c_lt0 rr) (fun c => ?_) (fun c => ?_)
  · have h := h.1 c
    refine p_lc (ls' := []) c90_15 rfl rfl ?_
    refine i_push (n := (-1)) (cct c90_15 rfl) zl_m1 ?_
    refine p_goto (cc3 c90_16) ?_
    exact p_ri (cct c90_25 rfl) trivial h
  · have h := h.2 c
    refine p_ild (cc3 c90_4) rfl ?_
    refine p_ald (cc3 c90_5) rfl ?_
    obtain ⟨g1, h⟩ := h
    obtain ⟨g2, h⟩ := h
    refine w_getp hW hT.1 (b := a0 + 2) (cc3 c90_6) g1 (ji := 1) rfl g2 ?_
    obtain ⟨g3, h⟩ := h
    refine w_len hW (cc3 c90_9) g3 ?_
    refine i_push (n := 1) (cc3 c90_10) zl_1 ?_
    obtain ⟨g4, h⟩ := h
    refine (fun _ : Rg ((gL W (a0 + 2) : Int) - 1) => i_sub (cc3 c90_11) ?_) g4
    refine i_icmp (c' := x1 < ((gL W (a0 + 2) : Int) - 1)) (cc3 c90_12) (iz_lt rr g4) (fun c => ?_) (fun c => ?_)
    · have h := h.1 c
      refine p_ald (cc3 c90_19) rfl ?_
      refine w_getp hW hT.1 (b := a0 + 2) (cc3 c90_20) g1 (ji := 1) rfl g2 ?_
      refine p_ild (cc3 c90_23) rfl ?_
      obtain ⟨g5, h⟩ := h
      refine w_aldi hW (v := A (a0 + 2) x1) (cc3 c90_24) g3 g5 rfl ?_
      refine p_lc (ls' := []) c90_25 rfl rfl ?_
      exact p_ri (cct c90_25 rfl) trivial h
    · have h := h.2 c
      refine p_lc (ls' := []) c90_15 rfl rfl ?_
      refine i_push (n := (-1)) (cct c90_15 rfl) zl_m1 ?_
      refine p_goto (cc3 c90_16) ?_
      exact p_ri (cct c90_25 rfl) trivial h
theorem S90 {d : Nat} (hd : 1 ≤ d) {W : gW} (hW : HW W) {A : Nat → Int → Int} {P : Nat → Int → Nat} (hR : RG A) (hT : Stat W P) (hG : GL W) (n : Int) {x1 : Int} {a0 : Nat} (rr : Rg x1) (hp : (OLg W P a0 n) ∧ (1 ≤ n ∧ n ≤ 24)) : xev xT d 90 [.ref (lo W a0), .int (iz x1)] (Wm W A P) (some (.int (iz (if 0 ≤ x1 ∧ x1 < n - 1 then A (a0 + 2) x1 else -1)))) (Wm W A P) := by
  refine xev_i (D := 0) hd (Nat.le_of_ble_eq_true rfl) (fun d hd => V90_0 hd hW hR hT hG rr ?_)

  obtain ⟨⟨⟨k1, k2, k3⟩, ⟨q1, q2⟩, l1, l2, l3⟩, hn⟩ := hp
  exact ⟨fun c => ⟨vq (by rw [if_neg (by omega)]), rfl⟩, fun c => ⟨k1, q2, k3, ⟨by omega, by omega⟩, fun c2 => ⟨by omega, vq (by rw [if_pos (by omega)]), rfl⟩, fun c2 => ⟨vq (by rw [if_neg (by omega)]), rfl⟩⟩⟩
theorem V68_0 {d : Nat} (hd : 1 ≤ d) {Q : Option Value → xM → Prop} {W : gW} (hW : HW W) {A : Nat → Int → Int} {P : Nat → Int → Nat} (hR : RG A) (hT : Stat W P) (hG : GL W) {a0 a1 : Nat} (h : (gK W a0 = 3) ∧ ((((A a0 9) = 0) → Q (some (.int (iz 1))) (Wm W A P)) ∧ (¬ ((A a0 9) = 0) → (gK W a1 = 6) ∧ ((¬ (0 ≤ (A a0 5) ∧ (A a0 5) < A a1 0) → Q (some (.int (iz 0))) (Wm W A P)) ∧ ((0 ≤ (A a0 5) ∧ (A a0 5) < A a1 0) → Q (some (.int (iz 1))) (Wm W A P)))))) : wpE (xT 68) (xev xT d) Q (0, [(0, .ref (lo W a0)), (1, .ref (lo W a1))], [], Wm W A P) := by
  refine p_ald (cc3 c68_0) rfl ?_
  obtain ⟨g1, h⟩ := h
  refine w_geti hW (v := A a0 9) (cc3 c68_1) g1 (ji := 9) rfl rfl ?_
  refine i_if (c' := (A a0 9) = 0) (cc3 c68_4) (c_eq0 (hR a0 9)) (fun c => ?_) (fun c => ?_)
  · have h := h.1 c
    refine p_lc (ls' := []) c68_18 rfl rfl ?_
    refine i_push (n := 1) (cct c68_18 rfl) zl_1 ?_
    refine p_goto (cc3 c68_19) ?_
    exact i_ri (cct c68_23 rfl) (by decide) h
  · have h := h.2 c
    refine p_ald (cc3 c68_7) rfl ?_
    refine p_ald (cc3 c68_8) rfl ?_
    refine w_geti hW (v := A a0 5) (cc3 c68_9) g1 (ji := 5) rfl rfl ?_
    obtain ⟨g2, h⟩ := h
    refine p_callV (cc3 c68_12) (Nat.le_of_ble_eq_true rfl) rfl rfl (Nat.le_of_ble_eq_true rfl) (wk_kd hW (by decide) g2) (S48 (Nat.le_trans (by decide) hd) hW hR hT hG (hR a0 5) g2) ?_
    refine i_ifB (cc3 c68_15) (fun c => ?_) (fun c => ?_)
    · have h := h.1 c
      refine i_push (n := 0) (cc3 c68_22) zl_0 ?_
      refine p_lc (ls' := []) c68_23 rfl rfl ?_
      exact i_ri (cct c68_23 rfl) (by decide) h
    · have h := h.2 c
      refine p_lc (ls' := []) c68_18 rfl rfl ?_
      refine i_push (n := 1) (cct c68_18 rfl) zl_1 ?_
      refine p_goto (cc3 c68_19) ?_
      exact i_ri (cct c68_23 rfl) (by decide) h
theorem S68 {d : Nat} (hd : 2 ≤ d) {W : gW} (hW : HW W) {A : Nat → Int → Int} {P : Nat → Int → Nat} (hR : RG A) (hT : Stat W P) (hG : GL W) {a0 a1 : Nat} (hp : (gK W a0 = 3) ∧ (gK W a1 = 6)) : xev xT d 68 [.ref (lo W a0), .ref (lo W a1)] (Wm W A P) (some (.int (iz (bI (A a0 9 = 0 ∨ (0 ≤ A a0 5 ∧ A a0 5 < A a1 0)))))) (Wm W A P) := by
  refine xev_i (D := 1) hd (Nat.le_of_ble_eq_true rfl) (fun d hd => V68_0 hd hW hR hT hG ?_)

  exact ⟨hp.1, fun c => ⟨vq (bI_t (Or.inl c)).symm, rfl⟩, fun c => ⟨hp.2, fun c2 => ⟨vq (bI_f (fun q => by rcases q with q | q; exact c q; exact c2 q)).symm, rfl⟩, fun c2 => ⟨vq (bI_t (Or.inr c2)).symm, rfl⟩⟩⟩
theorem V85_0 {d : Nat} (hd : 0 ≤ d) {Q : Option Value → xM → Prop} {W : gW} (hW : HW W) {A : Nat → Int → Int} {P : Nat → Int → Nat} (hR : RG A) (hT : Stat W P) (hG : GL W) {x2 : Int} {a0 a1 : Nat} (rr : Rg x2) (h : (gK W a0 = 3) ∧ (NZ W a1) ∧ Q none (Wm W (UA (UA (UA A a0 12 x2) a0 13 (A a0 6)) a0 14 0) (UP P a0 11 (a1 + 1)))) : wpE (xT 85) (xev xT d) Q (0, [(0, .ref (lo W a0)), (1, .ref (lo W a1)), (2, .int (iz x2))], [], Wm W A P) := by
  refine p_ald (cc3 c85_0) rfl ?_
  refine p_ald (cc3 c85_1) rfl ?_
  obtain ⟨g1, h⟩ := h
  obtain ⟨g2, h⟩ := h
  refine w_putp hW (cc3 c85_2) g1 (ji := 11) rfl g2 ?_
  refine p_ald (cc3 c85_5) rfl ?_
  refine p_ild (cc3 c85_6) rfl ?_
  refine id (α := Rg x2 → _) (fun _ => ?_) rr; refine w_puti hW (cc3 c85_7) g1 (ji := 12) rfl ?_
  refine p_ald (cc3 c85_10) rfl ?_
  refine p_ald (cc3 c85_11) rfl ?_
  refine w_geti hW (v := A a0 6) (cc3 c85_12) g1 (ji := 6) rfl (by first | rfl | exact UA_eq | exact UA_j (by decide) | exact UA_c (by decide)) ?_
  refine id (α := Rg (A a0 6) → _) (fun _ => ?_) (hR a0 6); refine w_puti hW (cc3 c85_15) g1 (ji := 13) rfl ?_
  refine p_ald (cc3 c85_18) rfl ?_
  refine i_push (n := 0) (cc3 c85_19) zl_0 ?_
  refine id (α := Rg 0 → _) (fun _ => ?_) (by decide : Rg (0 : Int)); refine w_putb hW (cc3 c85_20) g1 (ji := 14) rfl (by decide) ?_
  exact p_rv (cc3 c85_23) h
theorem S85 {d : Nat} (hd : 1 ≤ d) {W : gW} (hW : HW W) {A : Nat → Int → Int} {P : Nat → Int → Nat} (hR : RG A) (hT : Stat W P) (hG : GL W) {x2 : Int} {a0 a1 : Nat} (rr : Rg x2) (hp : (gK W a0 = 3) ∧ (gK W a1 = 1)) : ∃ (A' : Nat → Int → Int) (P' : Nat → Int → Nat), xev xT d 85 [.ref (lo W a0), .ref (lo W a1), .int (iz x2)] (Wm W A P) none (Wm W A' P') ∧ RG A' ∧ Stat W P' ∧ (A' = UA (UA (UA A a0 12 x2) a0 13 (A a0 6)) a0 14 0 ∧ P' = UP P a0 11 (a1 + 1)) := by
  refine xev_g (i := 85) (as := [.ref (lo W a0), .ref (lo W a1), .int (iz x2)]) (σ := Wm W A P) (Q := fun r_ σ_ => ∃ (A' : Nat → Int → Int) (P' : Nat → Int → Nat), r_ = none ∧ σ_ = Wm W A' P' ∧ RG A' ∧ Stat W P' ∧ (A' = UA (UA (UA A a0 12 x2) a0 13 (A a0 6)) a0 14 0 ∧ P' = UP P a0 11 (a1 + 1))) (D := 0) hd (Nat.le_of_ble_eq_true rfl) (fun r_ σ_ he hq => ?_) (fun d hd => V85_0 hd hW hR hT hG rr ?_)
  · obtain ⟨A', P', rfl, rfl, hq⟩ := hq
    exact ⟨A', P', he, hq⟩

  have hb : NZ W a1 := ⟨by omega, by omega⟩
  exact ⟨hp.1, hb, _, _, rfl, rfl, rg_UA (rg_UA (rg_UA hR rr) (hR _ _)) (by decide), Stat.up (v := a1 + 1) hT (po_no 11 (by decide)) (Or.inr hb), rfl, rfl⟩
theorem V88_0 {d : Nat} (hd : 0 ≤ d) {Q : Option Value → xM → Prop} {W : gW} (hW : HW W) {A : Nat → Int → Int} {P : Nat → Int → Nat} (hR : RG A) (hT : Stat W P) (hG : GL W) {x1 : Int} {a0 : Nat} (rr : Rg x1) (h : (gK W a0 = 3) ∧ (((1 ≤ (A a0 4)) → (Rg (x1 + 1)) ∧ (Rg ((x1 + 1) * (A a0 8))) ∧ (0 < (A a0 4) ∧ (A a0 4) ≤ 2147483647) ∧ (Rg (x1 * (A a0 8))) ∧ (Rg ((((x1 + 1) * (A a0 8)).tdiv (A a0 4)) - ((x1 * (A a0 8)).tdiv (A a0 4)))) ∧ Q (some (.int (iz ((((x1 + 1) * (A a0 8)).tdiv (A a0 4)) - ((x1 * (A a0 8)).tdiv (A a0 4)))))) (Wm W A P)) ∧ (¬ (1 ≤ (A a0 4)) → Q (some (.int (iz 0))) (Wm W A P)))) : wpE (xT 88) (xev xT d) Q (0, [(0, .ref (lo W a0)), (1, .int (iz x1))], [], Wm W A P) := by
  refine p_ald (cc3 c88_0) rfl ?_
  obtain ⟨g1, h⟩ := h
  refine w_geti hW (v := A a0 4) (cc3 c88_1) g1 (ji := 4) rfl rfl ?_
  refine i_push (n := 1) (cc3 c88_4) zl_1 ?_
  refine i_icmp (c' := 1 ≤ (A a0 4)) (cc3 c88_5) (iz_le (by decide : Rg (1 : Int)) (hR a0 4)) (fun c => ?_) (fun c => ?_)
  · have h := h.1 c
    refine p_ild (cc3 c88_12) rfl ?_
    refine i_push (n := 1) (cc3 c88_13) zl_1 ?_
    obtain ⟨g2, h⟩ := h
    refine (fun _ : Rg (x1 + 1) => i_add (cc3 c88_14) ?_) g2
    refine p_ald (cc3 c88_15) rfl ?_
    refine w_geti hW (v := A a0 8) (cc3 c88_16) g1 (ji := 8) rfl rfl ?_
    obtain ⟨g3, h⟩ := h
    refine (fun _ : Rg ((x1 + 1) * (A a0 8)) => i_mul (cc3 c88_19) ?_) g3
    refine p_ald (cc3 c88_20) rfl ?_
    refine w_geti hW (v := A a0 4) (cc3 c88_21) g1 (ji := 4) rfl rfl ?_
    obtain ⟨g4, h⟩ := h
    refine i_div (cc3 c88_24) g3 g4 ?_
    refine p_ild (cc3 c88_25) rfl ?_
    refine p_ald (cc3 c88_26) rfl ?_
    refine w_geti hW (v := A a0 8) (cc3 c88_27) g1 (ji := 8) rfl rfl ?_
    obtain ⟨g5, h⟩ := h
    refine (fun _ : Rg (x1 * (A a0 8)) => i_mul (cc3 c88_30) ?_) g5
    refine p_ald (cc3 c88_31) rfl ?_
    refine w_geti hW (v := A a0 4) (cc3 c88_32) g1 (ji := 4) rfl rfl ?_
    refine i_div (cc3 c88_35) g5 g4 ?_
    obtain ⟨g6, h⟩ := h
    refine (fun _ : Rg ((((x1 + 1) * (A a0 8)).tdiv (A a0 4)) - ((x1 * (A a0 8)).tdiv (A a0 4))) => i_sub (cc3 c88_36) ?_) g6
    refine p_lc (ls' := []) c88_37 rfl rfl ?_
    exact p_ri (cct c88_37 rfl) trivial h
  · have h := h.2 c
    refine i_push (n := 0) (cc3 c88_8) zl_0 ?_
    refine p_goto (cc3 c88_9) ?_
    refine p_lc (ls' := []) c88_37 rfl rfl ?_
    exact p_ri (cct c88_37 rfl) trivial h
theorem S88 {d : Nat} (hd : 1 ≤ d) {W : gW} (hW : HW W) {A : Nat → Int → Int} {P : Nat → Int → Nat} (hR : RG A) (hT : Stat W P) (hG : GL W) {x1 : Int} {a0 : Nat} (rr : Rg x1) (hp : (OKi W P A a0) ∧ (0 ≤ x1 ∧ x1 ≤ 24)) : xev xT d 88 [.ref (lo W a0), .int (iz x1)] (Wm W A P) (some (.int (iz (kls (A a0 4) (A a0 8) x1)))) (Wm W A P) := by
  refine xev_i (D := 0) hd (Nat.le_of_ble_eq_true rfl) (fun d hd => V88_0 hd hW hR hT hG rr ?_)

  have h9 := kls_b hp.2 hp.1.2.2.2.2.1 (n := A a0 4) (by have := hp.1.2.2.2.1; omega)
  obtain ⟨⟨k1, -, -, h4, h5, -⟩, h2⟩ := hp
  have m1 := mul_b (a := x1 + 1) (b := A a0 8) (M := 25) (N := 800) (by omega) (by omega) h5.1 h5.2
  have m2 := mul_b (a := x1) (b := A a0 8) (M := 24) (N := 800) (by omega) (by omega) h5.1 h5.2
  exact ⟨k1, fun _ => ⟨⟨by omega, by omega⟩, ⟨by omega, by omega⟩, by omega, ⟨by omega, by omega⟩, ⟨by unfold kls at h9; omega, by unfold kls at h9; omega⟩, rfl, rfl⟩, fun c => by omega⟩
theorem V93_0 {d : Nat} (hd : 0 ≤ d) {Q : Option Value → xM → Prop} {W : gW} (hW : HW W) {A : Nat → Int → Int} {P : Nat → Int → Nat} (hR : RG A) (hT : Stat W P) (hG : GL W) {x1 : Int} {a0 : Nat} (rr : Rg x1) (h : (((x1 = 0) → (gK W a0 = 3) ∧ (Rg ((A a0 4) * (A a0 13))) ∧ Q (some (.int (iz ((A a0 4) * (A a0 13))))) (Wm W A P)) ∧ (¬ (x1 = 0) → (gK W a0 = 3) ∧ (Rg ((A a0 4) * (A a0 13))) ∧ (Rg (((A a0 4) * (A a0 13)) - (A a0 8))) ∧ Q (some (.int (iz (((A a0 4) * (A a0 13)) - (A a0 8))))) (Wm W A P)))) : wpE (xT 93) (xev xT d) Q (0, [(0, .ref (lo W a0)), (1, .int (iz x1))], [], Wm W A P) := by
  refine p_ild (cc3 c93_0) rfl ?_
  refine i_if (c' := x1 = 0) (cc3 c93_1) (c_eq0 rr) (fun c => ?_) (fun c => ?_)
  · have h := h.1 c
    refine p_ald (cc3 c93_21) rfl ?_
    obtain ⟨g1, h⟩ := h
    refine w_geti hW (v := A a0 4) (cc3 c93_22) g1 (ji := 4) rfl rfl ?_
    refine p_ald (cc3 c93_25) rfl ?_
    refine w_geti hW (v := A a0 13) (cc3 c93_26) g1 (ji := 13) rfl rfl ?_
    obtain ⟨g2, h⟩ := h
    refine (fun _ : Rg ((A a0 4) * (A a0 13)) => i_mul (cc3 c93_29) ?_) g2
    refine p_lc (ls' := []) c93_30 rfl rfl ?_
    exact p_ri (cct c93_30 rfl) trivial h
  · have h := h.2 c
    refine p_ald (cc3 c93_4) rfl ?_
    obtain ⟨g1, h⟩ := h
    refine w_geti hW (v := A a0 4) (cc3 c93_5) g1 (ji := 4) rfl rfl ?_
    refine p_ald (cc3 c93_8) rfl ?_
    refine w_geti hW (v := A a0 13) (cc3 c93_9) g1 (ji := 13) rfl rfl ?_
    obtain ⟨g2, h⟩ := h
    refine (fun _ : Rg ((A a0 4) * (A a0 13)) => i_mul (cc3 c93_12) ?_) g2
    refine p_ald (cc3 c93_13) rfl ?_
    refine w_geti hW (v := A a0 8) (cc3 c93_14) g1 (ji := 8) rfl rfl ?_
    obtain ⟨g3, h⟩ := h
    refine (fun _ : Rg (((A a0 4) * (A a0 13)) - (A a0 8)) => i_sub (cc3 c93_17) ?_) g3
    refine p_goto (cc3 c93_18) ?_
    refine p_lc (ls' := []) c93_30 rfl rfl ?_
    exact p_ri (cct c93_30 rfl) trivial h
theorem S93 {d : Nat} (hd : 1 ≤ d) {W : gW} (hW : HW W) {A : Nat → Int → Int} {P : Nat → Int → Nat} (hR : RG A) (hT : Stat W P) (hG : GL W) {x1 : Int} {a0 : Nat} (rr : Rg x1) (hp : (OKi W P A a0)) : xev xT d 93 [.ref (lo W a0), .int (iz x1)] (Wm W A P) (some (.int (iz (A a0 4 * A a0 13 - (if x1 = 0 then 0 else A a0 8))))) (Wm W A P) := by
  refine xev_i (D := 0) hd (Nat.le_of_ble_eq_true rfl) (fun d hd => V93_0 hd hW hR hT hG rr ?_)

  have h1 := aro_b hp
  obtain ⟨k1, -, -, h4, h5, -⟩ := hp
  exact ⟨fun c => ⟨k1, ⟨by omega, by omega⟩, vq (by rw [if_pos c]; omega), rfl⟩, fun c => ⟨k1, ⟨by omega, by omega⟩, ⟨by omega, by omega⟩, vq (by rw [if_neg c]), rfl⟩⟩
theorem V94_0 {d : Nat} (hd : 1 ≤ d) {Q : Option Value → xM → Prop} {W : gW} (hW : HW W) {A : Nat → Int → Int} {P : Nat → Int → Nat} (hR : RG A) (hT : Stat W P) (hG : GL W) {x1 x2 : Int} {a0 : Nat} (rr : Rg x1 ∧ Rg x2) (h : wpE (xT 94) (xev xT d) Q (5, [(0, .ref (lo W a0)), (2, .int (iz x2)), (3, .int (iz x1)), (4, .int (iz 0))], [], Wm W A P)) : wpE (xT 94) (xev xT d) Q (0, [(0, .ref (lo W a0)), (1, .int (iz x1)), (2, .int (iz x2))], [], Wm W A P) := by
  refine p_ild (cc3 c94_0) rfl ?_
  refine p_ist (ls' := [(3, .int (iz x1)), (0, .ref (lo W a0)), (1, .int (iz x1)), (2, .int (iz x2))]) (cc3 c94_1) (by decide) rfl ?_
  refine i_push (n := 0) (cc3 c94_2) zl_0 ?_
  refine p_ist (ls' := [(4, .int (iz 0)), (3, .int (iz x1)), (0, .ref (lo W a0)), (1, .int (iz x1)), (2, .int (iz x2))]) (cc3 c94_3) (by decide) rfl ?_
  exact p_lc (ls' := [(0, .ref (lo W a0)), (2, .int (iz x2)), (3, .int (iz x1)), (4, .int (iz 0))]) c94_5 rfl rfl h
theorem V94_5 {d : Nat} (hd : 1 ≤ d) {Q : Option Value → xM → Prop} {W : gW} (hW : HW W) {A : Nat → Int → Int} {P : Nat → Int → Nat} (hR : RG A) (hT : Stat W P) (hG : GL W) {x2 x3 x4 : Int} {a0 : Nat} (rr : Rg x2 ∧ Rg x3 ∧ Rg x4) (h : (gK W a0 = 3) ∧ ((((A a0 4) ≤ x4) → Q (some (.int (iz (-1)))) (Wm W A P)) ∧ (¬ ((A a0 4) ≤ x4) → (((x2 = 0) → (Rg ((A a0 13) - 0)) ∧ (((((A a0 13) - 0) ≤ x3) → (Rg (x3 - ((A a0 13) - 0))) ∧ (Rg (x4 + 1)) ∧ wpE (xT 94) (xev xT d) Q (5, [(0, .ref (lo W a0)), (2, .int (iz x2)), (3, .int (iz (x3 - ((A a0 13) - 0)))), (4, .int (iz (x4 + 1)))], [], Wm W A P)) ∧ (¬ (((A a0 13) - 0) ≤ x3) → (P a0 10 = (a0 + 1) + 1) ∧ (OLg W P (a0 + 1) (A a0 4)) ∧ (gK W (a0 + 1) = 5) ∧ (Rg ((k_st A (a0 + 1) (A a0 4) x4) + ((0 : Int).tdiv 2))) ∧ (Rg (((k_st A (a0 + 1) (A a0 4) x4) + ((0 : Int).tdiv 2)) + x3)) ∧ Q (some (.int (iz (((k_st A (a0 + 1) (A a0 4) x4) + ((0 : Int).tdiv 2)) + x3)))) (Wm W A P)))) ∧ (¬ (x2 = 0) → (OKi W P A a0) ∧ (0 ≤ x4 ∧ x4 ≤ 24) ∧ (Rg ((A a0 13) - (kls (A a0 4) (A a0 8) x4))) ∧ (((((A a0 13) - (kls (A a0 4) (A a0 8) x4)) ≤ x3) → (Rg (x3 - ((A a0 13) - (kls (A a0 4) (A a0 8) x4)))) ∧ (Rg (x4 + 1)) ∧ wpE (xT 94) (xev xT d) Q (5, [(0, .ref (lo W a0)), (2, .int (iz x2)), (3, .int (iz (x3 - ((A a0 13) - (kls (A a0 4) (A a0 8) x4))))), (4, .int (iz (x4 + 1)))], [], Wm W A P)) ∧ (¬ (((A a0 13) - (kls (A a0 4) (A a0 8) x4)) ≤ x3) → (P a0 10 = (a0 + 1) + 1) ∧ (OLg W P (a0 + 1) (A a0 4)) ∧ (gK W (a0 + 1) = 5) ∧ (Rg ((k_st A (a0 + 1) (A a0 4) x4) + ((kls (A a0 4) (A a0 8) x4).tdiv 2))) ∧ (Rg (((k_st A (a0 + 1) (A a0 4) x4) + ((kls (A a0 4) (A a0 8) x4).tdiv 2)) + x3)) ∧ Q (some (.int (iz (((k_st A (a0 + 1) (A a0 4) x4) + ((kls (A a0 4) (A a0 8) x4).tdiv 2)) + x3)))) (Wm W A P)))))))) : wpE (xT 94) (xev xT d) Q (5, [(0, .ref (lo W a0)), (2, .int (iz x2)), (3, .int (iz x3)), (4, .int (iz x4))], [], Wm W A P) := by
  refine p_ild (cct c94_5 rfl) rfl ?_
  refine p_ald (cc3 c94_7) rfl ?_
  obtain ⟨g1, h⟩ := h
  refine w_geti hW (v := A a0 4) (cc3 c94_8) g1 (ji := 4) rfl rfl ?_
  refine i_icmp (c' := (A a0 4) ≤ x4) (cc3 c94_11) (iz_le (hR a0 4) rr.2.2) (fun c => ?_) (fun c => ?_)
  · have h := h.1 c
    refine i_push (n := (-1)) (cc3 c94_73) zl_m1 ?_
    exact p_ri (cc3 c94_74) trivial h
  · have h := h.2 c
    refine p_ild (cc3 c94_14) rfl ?_
    refine i_if (c' := x2 = 0) (cc3 c94_15) (c_eq0 rr.1) (fun c => ?_) (fun c => ?_)
    · have h := h.1 c
      refine i_push (n := 0) (cc3 c94_27) zl_0 ?_
      refine p_ist (ls' := [(5, .int (iz 0)), (0, .ref (lo W a0)), (2, .int (iz x2)), (3, .int (iz x3)), (4, .int (iz x4))]) (cct c94_28 rfl) (by decide) rfl ?_
      refine p_ald (cc3 c94_30) rfl ?_
      refine w_geti hW (v := A a0 13) (cc3 c94_31) g1 (ji := 13) rfl rfl ?_
      refine p_ild (cc3 c94_34) rfl ?_
      obtain ⟨g2, h⟩ := h
      refine (fun _ : Rg ((A a0 13) - 0) => i_sub (cc3 c94_36) ?_) g2
      refine p_ist (ls' := [(6, .int (iz ((A a0 13) - 0))), (5, .int (iz 0)), (0, .ref (lo W a0)), (2, .int (iz x2)), (3, .int (iz x3)), (4, .int (iz x4))]) (cc3 c94_37) (by decide) rfl ?_
      refine p_ild (cc3 c94_39) rfl ?_
      refine p_ild (cc3 c94_40) rfl ?_
      refine i_icmp (c' := ((A a0 13) - 0) ≤ x3) (cc3 c94_42) (iz_le g2 rr.2.1) (fun c => ?_) (fun c => ?_)
      · have h := h.1 c
        refine p_ild (cc3 c94_62) rfl ?_
        refine p_ild (cc3 c94_63) rfl ?_
        obtain ⟨g3, h⟩ := h
        refine (fun _ : Rg (x3 - ((A a0 13) - 0)) => i_sub (cc3 c94_65) ?_) g3
        refine p_ist (ls' := [(3, .int (iz (x3 - ((A a0 13) - 0)))), (6, .int (iz ((A a0 13) - 0))), (5, .int (iz 0)), (0, .ref (lo W a0)), (2, .int (iz x2)), (4, .int (iz x4))]) (cc3 c94_66) (by decide) rfl ?_
        obtain ⟨g4, h⟩ := h
        refine (fun _ : Rg (x4 + 1) => i_iinc (n := 1) (y := x4 + 1) (ls' := [(4, .int (iz (x4 + 1))), (3, .int (iz (x3 - ((A a0 13) - 0)))), (6, .int (iz ((A a0 13) - 0))), (5, .int (iz 0)), (0, .ref (lo W a0)), (2, .int (iz x2))]) (cc3 c94_67) (by decide) rfl zl_1 (by first | rfl | omega) rfl ?_) g4
        refine p_goto (cc3 c94_70) ?_
        exact p_lc (ls' := [(0, .ref (lo W a0)), (2, .int (iz x2)), (3, .int (iz (x3 - ((A a0 13) - 0)))), (4, .int (iz (x4 + 1)))]) c94_5 rfl rfl h
      · have h := h.2 c
        refine p_ald (cc3 c94_45) rfl ?_
        obtain ⟨g3, h⟩ := h
        refine w_getp hW hT.1 (b := a0 + 1) (cc3 c94_46) g1 (ji := 10) rfl g3 ?_
        refine p_ild (cc3 c94_49) rfl ?_
        obtain ⟨g4, h⟩ := h
        obtain ⟨g5, h⟩ := h
        refine p_callV (cc3 c94_51) (Nat.le_of_ble_eq_true rfl) rfl rfl (Nat.le_of_ble_eq_true rfl) (wk_kd hW (by decide) g5) (S89 (Nat.le_trans (by decide) hd) hW hR hT hG (A a0 4) rr.2.2 g4) ?_
        refine p_ild (cc3 c94_54) rfl ?_
        refine i_push (n := 2) (cc3 c94_56) zl_2 ?_
        refine i_div (cc3 c94_57) (by decide : Rg (0 : Int)) (by decide) ?_
        obtain ⟨g6, h⟩ := h
        refine (fun _ : Rg ((k_st A (a0 + 1) (A a0 4) x4) + ((0 : Int).tdiv 2)) => i_add (cc3 c94_58) ?_) g6
        refine p_ild (cc3 c94_59) rfl ?_
        obtain ⟨g7, h⟩ := h
        refine (fun _ : Rg (((k_st A (a0 + 1) (A a0 4) x4) + ((0 : Int).tdiv 2)) + x3) => i_add (cc3 c94_60) ?_) g7
        exact p_ri (cc3 c94_61) trivial h
    · have h := h.2 c
      refine p_ald (cc3 c94_18) rfl ?_
      refine p_ild (cc3 c94_19) rfl ?_
      obtain ⟨g2, h⟩ := h
      obtain ⟨g3, h⟩ := h
      refine p_callV (cc3 c94_21) (Nat.le_of_ble_eq_true rfl) rfl rfl (Nat.le_of_ble_eq_true rfl) (wk_kd hW (by decide) g1) (S88 (Nat.le_trans (by decide) hd) hW hR hT hG rr.2.2 ⟨g2, g3⟩) ?_
      refine p_goto (cc3 c94_24) ?_
      refine p_ist (ls' := [(5, .int (iz (kls (A a0 4) (A a0 8) x4))), (0, .ref (lo W a0)), (2, .int (iz x2)), (3, .int (iz x3)), (4, .int (iz x4))]) (cct c94_28 rfl) (by decide) rfl ?_
      refine p_ald (cc3 c94_30) rfl ?_
      refine w_geti hW (v := A a0 13) (cc3 c94_31) g1 (ji := 13) rfl rfl ?_
      refine p_ild (cc3 c94_34) rfl ?_
      obtain ⟨g4, h⟩ := h
      refine (fun _ : Rg ((A a0 13) - (kls (A a0 4) (A a0 8) x4)) => i_sub (cc3 c94_36) ?_) g4
      refine p_ist (ls' := [(6, .int (iz ((A a0 13) - (kls (A a0 4) (A a0 8) x4)))), (5, .int (iz (kls (A a0 4) (A a0 8) x4))), (0, .ref (lo W a0)), (2, .int (iz x2)), (3, .int (iz x3)), (4, .int (iz x4))]) (cc3 c94_37) (by decide) rfl ?_
      refine p_ild (cc3 c94_39) rfl ?_
      refine p_ild (cc3 c94_40) rfl ?_
      refine i_icmp (c' := ((A a0 13) - (kls (A a0 4) (A a0 8) x4)) ≤ x3) (cc3 c94_42) (iz_le g4 rr.2.1) (fun c => ?_) (fun c => ?_)
      · have h := h.1 c
        refine p_ild (cc3 c94_62) rfl ?_
        refine p_ild (cc3 c94_63) rfl ?_
        obtain ⟨g5, h⟩ := h
        refine (fun _ : Rg (x3 - ((A a0 13) - (kls (A a0 4) (A a0 8) x4))) => i_sub (cc3 c94_65) ?_) g5
        refine p_ist (ls' := [(3, .int (iz (x3 - ((A a0 13) - (kls (A a0 4) (A a0 8) x4))))), (6, .int (iz ((A a0 13) - (kls (A a0 4) (A a0 8) x4)))), (5, .int (iz (kls (A a0 4) (A a0 8) x4))), (0, .ref (lo W a0)), (2, .int (iz x2)), (4, .int (iz x4))]) (cc3 c94_66) (by decide) rfl ?_
        obtain ⟨g6, h⟩ := h
        refine (fun _ : Rg (x4 + 1) => i_iinc (n := 1) (y := x4 + 1) (ls' := [(4, .int (iz (x4 + 1))), (3, .int (iz (x3 - ((A a0 13) - (kls (A a0 4) (A a0 8) x4))))), (6, .int (iz ((A a0 13) - (kls (A a0 4) (A a0 8) x4)))), (5, .int (iz (kls (A a0 4) (A a0 8) x4))), (0, .ref (lo W a0)), (2, .int (iz x2))]) (cc3 c94_67) (by decide) rfl zl_1 (by first | rfl | omega) rfl ?_) g6
        refine p_goto (cc3 c94_70) ?_
        exact p_lc (ls' := [(0, .ref (lo W a0)), (2, .int (iz x2)), (3, .int (iz (x3 - ((A a0 13) - (kls (A a0 4) (A a0 8) x4))))), (4, .int (iz (x4 + 1)))]) c94_5 rfl rfl h
      · have h := h.2 c
        refine p_ald (cc3 c94_45) rfl ?_
        obtain ⟨g5, h⟩ := h
        refine w_getp hW hT.1 (b := a0 + 1) (cc3 c94_46) g1 (ji := 10) rfl g5 ?_
        refine p_ild (cc3 c94_49) rfl ?_
        obtain ⟨g6, h⟩ := h
        obtain ⟨g7, h⟩ := h
        refine p_callV (cc3 c94_51) (Nat.le_of_ble_eq_true rfl) rfl rfl (Nat.le_of_ble_eq_true rfl) (wk_kd hW (by decide) g7) (S89 (Nat.le_trans (by decide) hd) hW hR hT hG (A a0 4) rr.2.2 g6) ?_
        refine p_ild (cc3 c94_54) rfl ?_
        refine i_push (n := 2) (cc3 c94_56) zl_2 ?_
        refine i_div (cc3 c94_57) (rg_kls ⟨g2, g3⟩) (by decide) ?_
        obtain ⟨g8, h⟩ := h
        refine (fun _ : Rg ((k_st A (a0 + 1) (A a0 4) x4) + ((kls (A a0 4) (A a0 8) x4).tdiv 2)) => i_add (cc3 c94_58) ?_) g8
        refine p_ild (cc3 c94_59) rfl ?_
        obtain ⟨g9, h⟩ := h
        refine (fun _ : Rg (((k_st A (a0 + 1) (A a0 4) x4) + ((kls (A a0 4) (A a0 8) x4).tdiv 2)) + x3) => i_add (cc3 c94_60) ?_) g9
        exact p_ri (cc3 c94_61) trivial h

theorem shp_b {w : Int → Int} {M : Int} (hM : ∀ p, -M ≤ w p) : ∀ (r : Nat) (p l : Int), 0 ≤ l → p ≤ (shp w r p l).1 ∧ (shp w r p l).1 ≤ p + r ∧ 0 ≤ (shp w r p l).2 ∧ (0 ≤ M → (shp w r p l).2 ≤ l + r * M)
  | 0, p, l, h => ⟨Int.le_refl p, by show p ≤ p + 0; omega, h, fun _ => by show l ≤ l + (0 : Nat) * M; omega⟩
  | r + 1, p, l, h => by
    unfold shp
    split
    · exact ⟨Int.le_refl p, by show p ≤ _; omega, h, fun hm => by
        have : 0 ≤ ((r + 1 : Nat) : Int) * M := Int.mul_nonneg (by omega) hm
        show l ≤ _; omega⟩
    · have ih := shp_b hM r (p + 1) (l - w p) (by omega)
      have := hM p
      refine ⟨by omega, by omega, ih.2.2.1, fun hm => ?_⟩
      have h2 := ih.2.2.2 hm
      have e : ((r + 1 : Nat) : Int) * M = r * M + M := by rw [Int.natCast_add, Int.add_mul]; simp
      omega
theorem shw_b {W : gW} {P : Nat → Int → Nat} {A : Nat → Int → Int} {a : Nat} (hp : OKi W P A a) (hs : StB A a) {t p l : Int} (hp0 : 0 ≤ p ∧ p < A a 4) (hl : 0 ≤ l ∧ l ≤ 1000000) : -12500 ≤ (if t = 0 then 0 else (kls (A a 4) (A a 8) p).tdiv 2) ∧ (if t = 0 then 0 else (kls (A a 4) (A a 8) p).tdiv 2) ≤ 12500 := by
  obtain ⟨-, -, -, h4, h5, -⟩ := hp
  have h9 := kls_b (n := A a 4) (T := A a 8) (k := p) (by omega) h5 (by omega)
  split
  · omega
  · by_cases c : 0 ≤ kls (A a 4) (A a 8) p
    · rw [tdiv_pos c]; omega
    · have e : (kls (A a 4) (A a 8) p).tdiv 2 = -((-(kls (A a 4) (A a 8) p)) / 2) := by rw [← tdiv_pos (show 0 ≤ -(kls (A a 4) (A a 8) p) by omega), Int.neg_tdiv, Int.neg_neg]
      rw [e]; omega
theorem rg_shw {W : gW} {P : Nat → Int → Nat} {A : Nat → Int → Int} {a : Nat} {t i : Int} (h : OKi W P A a ∧ StB A a ∧ (0 ≤ i ∧ i ≤ 100000)) : Rg (k_shw A a t (shp (k_wd A a t) (A a 4).toNat 0 i)) := by
  obtain ⟨h1, h2, h3⟩ := h
  have h1' := h1
  obtain ⟨-, -, -, h4, h5, -, -, -, -, h6, -⟩ := h1'
  have hb := shp_b (w := fun p => if 0 ≤ p ∧ p < A a 4 then k_wd A a t p else 0) (M := 27000) (fun p => by
    show -27000 ≤ (if 0 ≤ p ∧ p < A a 4 then k_wd A a t p else 0)
    split
    · have := kls_b (n := A a 4) (T := A a 8) (k := p) (by omega) h5 (by omega)
      unfold k_wd; split <;> omega
    · omega) (A a 4).toNat 0 i h3.1
  have e : ∀ (r : Nat) (p l : Int), 0 ≤ p → p + r ≤ A a 4 → shp (fun p => if 0 ≤ p ∧ p < A a 4 then k_wd A a t p else 0) r p l = shp (k_wd A a t) r p l := by
    intro r
    induction r with
    | zero => intro p l _ _; rfl
    | succ r ih =>
      intro p l h0 h7
      unfold shp
      have e2 : (if 0 ≤ p ∧ p < A a 4 then k_wd A a t p else 0) = k_wd A a t p := if_pos (by omega)
      simp only [e2]
      rw [ih (p + 1) _ (by omega) (by omega)]
  rw [e _ _ _ (Int.le_refl 0) (by omega)] at hb
  unfold k_shw
  split
  · rename_i c
    have h8 := shw_b (t := t) h1 h2 (p := (shp (k_wd A a t) (A a 4).toNat 0 i).1) (l := 0) ⟨hb.1, c⟩ (by omega)
    have h9 := h2 (shp (k_wd A a t) (A a 4).toNat 0 i).1
    have h10 := hb.2.2.2 (by omega)
    have h11 : ((A a 4).toNat : Int) * 27000 ≤ 24 * 27000 := Int.mul_le_mul_of_nonneg_right (by omega) (by omega)
    constructor <;> omega
  · decide
theorem L94 {d : Nat} (hd : 1 ≤ d) {Q : Option Value → xM → Prop} {W : gW} (hW : HW W) {A : Nat → Int → Int} {P : Nat → Int → Nat} (hR : RG A) (hT : Stat W P) (hG : GL W) {a : Nat} {t : Int} (rt : Rg t) (hp : OKi W P A a) (hs : StB A a) :
    ∀ (r : Nat) (p l : Int), 0 ≤ p → p + r = A a 4 → 0 ≤ l → l + r * 27000 ≤ 1000000 → Q (some (.int (iz (k_shw A a t (shp (k_wd A a t) r p l))))) (Wm W A P) → wpE (xT 94) (xev xT d) Q (5, [(0, .ref (lo W a)), (2, .int (iz t)), (3, .int (iz l)), (4, .int (iz p))], [], Wm W A P) := by
  have hp' := hp
  obtain ⟨k1, k2, k3, h4, h5, -, -, -, -, h6, -⟩ := hp'
  intro r
  induction r with
  | zero =>
    intro p l h0 hr hl hb hQ
    refine V94_5 hd hW hR hT hG ⟨rt, ⟨by omega, by omega⟩, ⟨by omega, by omega⟩⟩ ⟨k1, fun _ => ?_, fun c => absurd (by omega) c⟩
    have e : k_shw A a t (shp (k_wd A a t) 0 p l) = -1 := by
      show (if p < A a 4 then _ else -1) = -1
      rw [if_neg (by omega)]
    rw [e] at hQ; exact hQ
  | succ r ih =>
    intro p l h0 hr hl hb hQ
    have h9 := kls_b (n := A a 4) (T := A a 8) (k := p) (by omega) h5 (by omega)
    have hs1 := hs p
    have h8 := shw_b (t := t) hp hs (p := p) (l := 0) (by omega) (by omega)
    have e1 : ((r + 1 : Nat) : Int) * 27000 = r * 27000 + 27000 := by rw [Int.natCast_add, Int.add_mul]; simp
    have hr0 : (0 : Int) ≤ (r : Int) * 27000 := Int.mul_nonneg (by omega) (by omega)
    refine V94_5 hd hW hR hT hG ⟨rt, ⟨by omega, by omega⟩, ⟨by omega, by omega⟩⟩ ⟨k1, fun c => absurd c (by omega), fun _ => ⟨fun c => ⟨⟨by omega, by omega⟩, fun c2 => ⟨⟨by omega, by omega⟩, ⟨by omega, by omega⟩, ?_⟩, fun c2 => ?_⟩, fun c => ⟨hp, by omega, ⟨by omega, by omega⟩, fun c2 => ⟨⟨by omega, by omega⟩, ⟨by omega, by omega⟩, ?_⟩, fun c2 => ?_⟩⟩⟩
    · refine ih (p + 1) _ (by omega) (by omega) (by omega) (by omega) ?_
      have e : k_wd A a t p = A a 13 - 0 := by unfold k_wd; rw [if_pos c]
      unfold shp at hQ
      rw [e, if_neg (by omega)] at hQ
      exact hQ
    · have e : k_wd A a t p = A a 13 - 0 := by unfold k_wd; rw [if_pos c]
      unfold shp at hQ
      rw [e, if_pos (by omega)] at hQ
      have e2 : k_shw A a t (p, l) = k_st A (a + 1) (A a 4) p + (0 : Int).tdiv 2 + l := by
        show (if p < A a 4 then k_st A (a + 1) (A a 4) p + (if t = 0 then 0 else _) + l else -1) = _
        rw [if_pos (by omega), if_pos c]; rfl
      rw [e2] at hQ
      have e0 : (0 : Int).tdiv 2 = 0 := rfl
      exact ⟨k2, k3, k3.1.1, ⟨by omega, by omega⟩, ⟨by omega, by omega⟩, hQ⟩
    · refine ih (p + 1) _ (by omega) (by omega) (by omega) (by omega) ?_
      have e : k_wd A a t p = A a 13 - kls (A a 4) (A a 8) p := by unfold k_wd; rw [if_neg c]
      unfold shp at hQ
      rw [e, if_neg (by omega)] at hQ
      exact hQ
    · have e : k_wd A a t p = A a 13 - kls (A a 4) (A a 8) p := by unfold k_wd; rw [if_neg c]
      unfold shp at hQ
      rw [e, if_pos (by omega)] at hQ
      have e2 : k_shw A a t (p, l) = k_st A (a + 1) (A a 4) p + (kls (A a 4) (A a 8) p).tdiv 2 + l := by
        show (if p < A a 4 then k_st A (a + 1) (A a 4) p + (if t = 0 then 0 else _) + l else -1) = _
        rw [if_pos (by omega), if_neg c]
      rw [e2] at hQ
      rw [if_neg c] at h8
      exact ⟨k2, k3, k3.1.1, ⟨by omega, by omega⟩, ⟨by omega, by omega⟩, hQ⟩
theorem S94 {d : Nat} (hd : 2 ≤ d) {W : gW} (hW : HW W) {A : Nat → Int → Int} {P : Nat → Int → Nat} (hR : RG A) (hT : Stat W P) (hG : GL W) {x1 x2 : Int} {a0 : Nat} (rr : Rg x1 ∧ Rg x2) (hp : (OKi W P A a0) ∧ (StB A a0) ∧ (0 ≤ x1 ∧ x1 ≤ 100000)) : xev xT d 94 [.ref (lo W a0), .int (iz x1), .int (iz x2)] (Wm W A P) (some (.int (iz (k_shw A a0 x2 (shp (k_wd A a0 x2) (A a0 4).toNat 0 x1))))) (Wm W A P) := by
  refine xev_i (D := 1) hd (Nat.le_of_ble_eq_true rfl) (fun d hd => V94_0 hd hW hR hT hG rr ?_)

  obtain ⟨p1, p2, p3⟩ := hp
  have h4 := p1.2.2.2.1
  have h11 : ((A a0 4).toNat : Int) * 27000 ≤ 24 * 27000 := Int.mul_le_mul_of_nonneg_right (by omega) (by omega)
  exact L94 hd hW hR hT hG rr.2 p1 p2 (A a0 4).toNat 0 x1 (Int.le_refl 0) (by omega) p3.1 (by omega) ⟨rfl, rfl⟩
theorem V97_0 {d : Nat} (hd : 2 ≤ d) {Q : Option Value → xM → Prop} {W : gW} (hW : HW W) {A : Nat → Int → Int} {P : Nat → Int → Nat} (hR : RG A) (hT : Stat W P) (hG : GL W) {x1 : Int} {a0 : Nat} (rr : Rg x1) (h : (gK W a0 = 3) ∧ (((P a0 11 = 0) → Q (some (.int (iz 0))) (Wm W A P)) ∧ (¬ (P a0 11 = 0) → (((x1 < 1) → Q (some (.int (iz 0))) (Wm W A P)) ∧ (¬ (x1 < 1) → (((x1 ≤ 999) → wpE (xT 97) (xev xT d) Q (23, [(0, .ref (lo W a0)), (1, .int (iz x1)), (2, .int (iz 0))], [], Wm W A P)) ∧ (¬ (x1 ≤ 999) → Q (some (.int (iz 0))) (Wm W A P)))))))) : wpE (xT 97) (xev xT d) Q (0, [(0, .ref (lo W a0)), (1, .int (iz x1))], [], Wm W A P) := by
  refine p_ald (cc3 c97_0) rfl ?_
  obtain ⟨g1, h⟩ := h
  refine w_getz hW hT.1 (cc3 c97_1) g1 (ji := 11) rfl ?_ ?_
  · intro cz2
    have h := h.1 cz2
    refine p_ifnN (cc3 c97_4) ?_
    refine p_lc (ls' := []) c97_19 rfl rfl ?_
    refine i_push (n := 0) (cct c97_19 rfl) zl_0 ?_
    exact i_ri (cc3 c97_20) (by decide) h
  · intro cz2
    have h := h.2 cz2
    refine p_ifnR (cc3 c97_4) ?_
    refine p_ild (cc3 c97_7) rfl ?_
    refine i_push (n := 1) (cc3 c97_8) zl_1 ?_
    refine i_icmp (c' := x1 < 1) (cc3 c97_9) (iz_lt rr (by decide : Rg (1 : Int))) (fun c => ?_) (fun c => ?_)
    · have h := h.1 c
      refine p_lc (ls' := []) c97_19 rfl rfl ?_
      refine i_push (n := 0) (cct c97_19 rfl) zl_0 ?_
      exact i_ri (cc3 c97_20) (by decide) h
    · have h := h.2 c
      refine p_ild (cc3 c97_12) rfl ?_
      refine i_push (n := 999) (cc3 c97_13) zl_999 ?_
      refine i_icmp (c' := x1 ≤ 999) (cc3 c97_16) (iz_le rr (by decide : Rg (999 : Int))) (fun c => ?_) (fun c => ?_)
      · have h := h.1 c
        refine i_push (n := 0) (cc3 c97_21) zl_0 ?_
        refine p_ist (ls' := [(2, .int (iz 0)), (0, .ref (lo W a0)), (1, .int (iz x1))]) (cc3 c97_22) (by decide) rfl ?_
        exact p_lc (ls' := [(0, .ref (lo W a0)), (1, .int (iz x1)), (2, .int (iz 0))]) c97_23 rfl rfl h
      · have h := h.2 c
        refine p_lc (ls' := []) c97_19 rfl rfl ?_
        refine i_push (n := 0) (cct c97_19 rfl) zl_0 ?_
        exact i_ri (cc3 c97_20) (by decide) h
theorem V97_23 {d : Nat} (hd : 2 ≤ d) {Q : Option Value → xM → Prop} {W : gW} (hW : HW W) {A : Nat → Int → Int} {P : Nat → Int → Nat} (hR : RG A) (hT : Stat W P) (hG : GL W) {x1 x2 : Int} {a0 : Nat} (rr : Rg x1 ∧ Rg x2) (h : (gK W a0 = 3) ∧ ((((A a0 4) ≤ x2) → Q (some (.int (iz 1))) (Wm W A P)) ∧ (¬ ((A a0 4) ≤ x2) → (P a0 10 = (a0 + 1) + 1) ∧ (OLg W P (a0 + 1) (A a0 4)) ∧ (gK W (a0 + 1) = 5) ∧ (OKi W P A a0) ∧ (0 ≤ x2 ∧ x2 ≤ 24) ∧ (((x1 ≤ (kls (A a0 4) (A a0 8) x2)) → Q (some (.int (iz 0))) (Wm W A P)) ∧ (¬ (x1 ≤ (kls (A a0 4) (A a0 8) x2)) → (Rg ((k_st A (a0 + 1) (A a0 4) x2) + x1)) ∧ (Rg (x2 + 1)) ∧ ((((k_st A (a0 + 1) (A a0 4) (x2 + 1)) < ((k_st A (a0 + 1) (A a0 4) x2) + x1)) → Q (some (.int (iz 0))) (Wm W A P)) ∧ (¬ ((k_st A (a0 + 1) (A a0 4) (x2 + 1)) < ((k_st A (a0 + 1) (A a0 4) x2) + x1)) → (((P a0 11 = 0) → False) ∧ (¬ (P a0 11 = 0) → (OBt W P A (P a0 11 - 1)) ∧ (gK W (P a0 11 - 1) = 1) ∧ ((¬ (¬ k_isF A (P a0 11 - 1) (k_st A (a0 + 1) (A a0 4) x2) x1) → Q (some (.int (iz 0))) (Wm W A P)) ∧ ((¬ k_isF A (P a0 11 - 1) (k_st A (a0 + 1) (A a0 4) x2) x1) → wpE (xT 97) (xev xT d) Q (23, [(0, .ref (lo W a0)), (1, .int (iz x1)), (2, .int (iz (x2 + 1)))], [], Wm W A P)))))))))))) : wpE (xT 97) (xev xT d) Q (23, [(0, .ref (lo W a0)), (1, .int (iz x1)), (2, .int (iz x2))], [], Wm W A P) := by
  refine p_ild (cct c97_23 rfl) rfl ?_
  refine p_ald (cc3 c97_24) rfl ?_
  obtain ⟨g1, h⟩ := h
  refine w_geti hW (v := A a0 4) (cc3 c97_25) g1 (ji := 4) rfl rfl ?_
  refine i_icmp (c' := (A a0 4) ≤ x2) (cc3 c97_28) (iz_le (hR a0 4) rr.2) (fun c => ?_) (fun c => ?_)
  · have h := h.1 c
    refine i_push (n := 1) (cc3 c97_83) zl_1 ?_
    exact i_ri (cc3 c97_84) (by decide) h
  · have h := h.2 c
    refine p_ald (cc3 c97_31) rfl ?_
    obtain ⟨g2, h⟩ := h
    refine w_getp hW hT.1 (b := a0 + 1) (cc3 c97_32) g1 (ji := 10) rfl g2 ?_
    refine p_ild (cc3 c97_35) rfl ?_
    obtain ⟨g3, h⟩ := h
    obtain ⟨g4, h⟩ := h
    refine p_callV (cc3 c97_36) (Nat.le_of_ble_eq_true rfl) rfl rfl (Nat.le_of_ble_eq_true rfl) (wk_kd hW (by decide) g4) (S89 (Nat.le_trans (by decide) hd) hW hR hT hG (A a0 4) rr.2 g3) ?_
    refine p_ist (ls' := [(3, .int (iz (k_st A (a0 + 1) (A a0 4) x2))), (0, .ref (lo W a0)), (1, .int (iz x1)), (2, .int (iz x2))]) (cc3 c97_39) (by decide) rfl ?_
    refine p_ild (cc3 c97_40) rfl ?_
    refine p_ald (cc3 c97_41) rfl ?_
    refine p_ild (cc3 c97_42) rfl ?_
    obtain ⟨g5, h⟩ := h
    obtain ⟨g6, h⟩ := h
    refine p_callV (cc3 c97_43) (Nat.le_of_ble_eq_true rfl) rfl rfl (Nat.le_of_ble_eq_true rfl) (wk_kd hW (by decide) g1) (S88 (Nat.le_trans (by decide) hd) hW hR hT hG rr.2 ⟨g5, g6⟩) ?_
    refine i_icmp (c' := x1 ≤ (kls (A a0 4) (A a0 8) x2)) (cc3 c97_46) (iz_le rr.1 (rg_kls ⟨g5, g6⟩)) (fun c => ?_) (fun c => ?_)
    · have h := h.1 c
      refine p_lc (ls' := []) c97_75 rfl rfl ?_
      refine i_push (n := 0) (cct c97_75 rfl) zl_0 ?_
      exact i_ri (cc3 c97_76) (by decide) h
    · have h := h.2 c
      refine p_ild (cc3 c97_49) rfl ?_
      refine p_ild (cc3 c97_50) rfl ?_
      obtain ⟨g7, h⟩ := h
      refine (fun _ : Rg ((k_st A (a0 + 1) (A a0 4) x2) + x1) => i_add (cc3 c97_51) ?_) g7
      refine p_ald (cc3 c97_52) rfl ?_
      refine w_getp hW hT.1 (b := a0 + 1) (cc3 c97_53) g1 (ji := 10) rfl g2 ?_
      refine p_ild (cc3 c97_56) rfl ?_
      obtain ⟨g8, h⟩ := h
      refine p_callV (cc3 c97_57) (Nat.le_of_ble_eq_true rfl) rfl rfl (Nat.le_of_ble_eq_true rfl) (wk_kd hW (by decide) g4) (S91 (Nat.le_trans (by decide) hd) hW hR hT hG (A a0 4) rr.2 ⟨g3, g8⟩) ?_
      refine i_icmp (c' := (k_st A (a0 + 1) (A a0 4) (x2 + 1)) < ((k_st A (a0 + 1) (A a0 4) x2) + x1)) (cc3 c97_60) (iz_lt (rg_st hR) g7) (fun c => ?_) (fun c => ?_)
      · have h := h.1 c
        refine p_lc (ls' := []) c97_75 rfl rfl ?_
        refine i_push (n := 0) (cct c97_75 rfl) zl_0 ?_
        exact i_ri (cc3 c97_76) (by decide) h
      · have h := h.2 c
        refine p_ald (cc3 c97_63) rfl ?_
        refine w_getz hW hT.1 (cc3 c97_64) g1 (ji := 11) rfl ?_ ?_
        · intro cz9
          have h := h.1 cz9
          refine p_ild (cc3 c97_67) rfl ?_
          refine p_ild (cc3 c97_68) rfl ?_
          exact h.elim
        · intro cz9
          have h := h.2 cz9
          refine p_ild (cc3 c97_67) rfl ?_
          refine p_ild (cc3 c97_68) rfl ?_
          obtain ⟨g10, h⟩ := h
          obtain ⟨g11, h⟩ := h
          refine p_callV (cc3 c97_69) (Nat.le_of_ble_eq_true rfl) rfl rfl (Nat.le_of_ble_eq_true rfl) (wk_kd hW (by decide) g11) (S56 (Nat.le_trans (by decide) hd) hW hR hT hG ⟨(rg_st hR), rr.1⟩ ⟨g10, g7⟩) ?_
          refine i_ifB (cc3 c97_72) (fun c => ?_) (fun c => ?_)
          · have h := h.1 c
            refine p_lc (ls' := []) c97_75 rfl rfl ?_
            refine i_push (n := 0) (cct c97_75 rfl) zl_0 ?_
            exact i_ri (cc3 c97_76) (by decide) h
          · have h := h.2 c
            refine (fun _ : Rg (x2 + 1) => i_iinc (n := 1) (y := x2 + 1) (ls' := [(2, .int (iz (x2 + 1))), (3, .int (iz (k_st A (a0 + 1) (A a0 4) x2))), (0, .ref (lo W a0)), (1, .int (iz x1))]) (cc3 c97_77) (by decide) rfl zl_1 (by first | rfl | omega) rfl ?_) g8
            refine p_goto (cc3 c97_80) ?_
            exact p_lc (ls' := [(0, .ref (lo W a0)), (1, .int (iz x1)), (2, .int (iz (x2 + 1)))]) c97_23 rfl rfl h

theorem L97 {d : Nat} (hd : 2 ≤ d) {Q : Option Value → xM → Prop} {W : gW} (hW : HW W) {A : Nat → Int → Int} {P : Nat → Int → Nat} (hR : RG A) (hT : Stat W P) (hG : GL W) {a : Nat} {w : Int} (hw : 1 ≤ w ∧ w ≤ 999) (hp : OKi W P A a) (hs : StB A a) (hb : ¬ P a 11 = 0) (hb2 : OBt W P A (P a 11 - 1)) :
    ∀ (r : Nat) (p : Int), 0 ≤ p → p + r = A a 4 → Q (some (.int (iz (bI (k_canB A a (P a 11 - 1) w r p = true))))) (Wm W A P) → wpE (xT 97) (xev xT d) Q (23, [(0, .ref (lo W a)), (1, .int (iz w)), (2, .int (iz p))], [], Wm W A P) := by
  have hp' := hp
  obtain ⟨k1, k2, k3, h4, h5, -⟩ := hp'
  intro r
  induction r with
  | zero =>
    intro p h0 hr hQ
    exact V97_23 hd hW hR hT hG ⟨⟨by omega, by omega⟩, ⟨by omega, by omega⟩⟩ ⟨k1, fun _ => hQ, fun c => absurd (by omega) c⟩
  | succ r ih =>
    intro p h0 hr hQ
    have h9 := kls_b (n := A a 4) (T := A a 8) (k := p) (by omega) h5 (by omega)
    have hs1 := hs p
    have no : (w ≤ kls (A a 4) (A a 8) p ∨ k_st A (a + 1) (A a 4) (p + 1) < k_st A (a + 1) (A a 4) p + w ∨ k_isF A (P a 11 - 1) (k_st A (a + 1) (A a 4) p) w) → Q (some (.int (iz 0))) (Wm W A P) := fun q => by
      have e : bI (k_canB A a (P a 11 - 1) w (r + 1) p = true) = 0 := bI_f (by unfold k_canB; rw [if_pos q]; decide)
      rw [e] at hQ; exact hQ
    refine V97_23 hd hW hR hT hG ⟨⟨by omega, by omega⟩, ⟨by omega, by omega⟩⟩ ⟨k1, fun c => absurd c (by omega), fun _ => ⟨k2, k3, k3.1.1, hp, by omega, fun c => no (Or.inl c), fun c => ⟨⟨by omega, by omega⟩, ⟨by omega, by omega⟩, fun c2 => no (Or.inr (Or.inl c2)), fun c2 => ⟨fun c3 => absurd c3 hb, fun _ => ⟨hb2, hb2.1.1, fun c3 => no (Or.inr (Or.inr (Classical.not_not.mp c3))), fun c3 => ih (p + 1) (by omega) (by omega) ?_⟩⟩⟩⟩⟩
    unfold k_canB at hQ
    rw [if_neg (by rintro (q | q | q); exact c q; exact c2 q; exact c3 q)] at hQ
    exact hQ
theorem S97 {d : Nat} (hd : 3 ≤ d) {W : gW} (hW : HW W) {A : Nat → Int → Int} {P : Nat → Int → Nat} (hR : RG A) (hT : Stat W P) (hG : GL W) {x1 : Int} {a0 : Nat} (rr : Rg x1) (hp : (OKi W P A a0) ∧ (StB A a0) ∧ (¬ P a0 11 = 0 → OBt W P A (P a0 11 - 1))) : xev xT d 97 [.ref (lo W a0), .int (iz x1)] (Wm W A P) (some (.int (iz (bI (¬ P a0 11 = 0 ∧ (1 ≤ x1 ∧ x1 ≤ 999) ∧ k_canB A a0 (P a0 11 - 1) x1 (A a0 4).toNat 0 = true))))) (Wm W A P) := by
  refine xev_i (D := 2) hd (Nat.le_of_ble_eq_true rfl) (fun d hd => V97_0 hd hW hR hT hG rr ?_)

  obtain ⟨p1, p2, p3⟩ := hp
  have h4 := p1.2.2.2.1
  have no : ¬ (¬ P a0 11 = 0 ∧ (1 ≤ x1 ∧ x1 ≤ 999) ∧ k_canB A a0 (P a0 11 - 1) x1 (A a0 4).toNat 0 = true) → (some (Value.int (iz 0)) = some (.int (iz (bI (¬ P a0 11 = 0 ∧ (1 ≤ x1 ∧ x1 ≤ 999) ∧ k_canB A a0 (P a0 11 - 1) x1 (A a0 4).toNat 0 = true)))) ∧ Wm W A P = Wm W A P) := fun q => ⟨vq (bI_f q).symm, rfl⟩
  refine ⟨p1.1, fun c => no (fun q => q.1 c), fun c => ⟨fun c2 => no (fun q => by omega), fun c2 => ⟨fun c3 => ?_, fun c3 => no (fun q => by omega)⟩⟩⟩
  refine L97 hd hW hR hT hG ⟨by omega, c3⟩ p1 p2 c (p3 c) (A a0 4).toNat 0 (Int.le_refl 0) (by omega) ⟨vq (bI_i ⟨fun q => ⟨c, ⟨by omega, c3⟩, q⟩, fun q => q.2.2⟩), rfl⟩
