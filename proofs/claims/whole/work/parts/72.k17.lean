/-- a stack, its top first, over a row -/
def ksK (f : Int → Int) : List Int → Prop
  | [] => True
  | x :: S => f (S.length : Int) = x ∧ ksK f S
theorem ksK_c {f g : Int → Int} : ∀ S : List Int, (∀ i : Int, i < S.length → g i = f i) → ksK f S → ksK g S
  | [], _, _ => trivial
  | x :: S, h, hs => ⟨(h S.length (by rw [List.length_cons]; omega)).trans hs.1, ksK_c S (fun i hi => h i (by rw [List.length_cons]; omega)) hs.2⟩
theorem psh_B {A0 B : Nat → Int → Int} {a : Nat} {S : List Int} {v z : Int} (hB : RG B) (hv : Rg v) (hz : z = S.length) (hl : (S.length : Int) ≤ 160) (hF : Fo a [a + 2] [3] A0 B) (hS : ksK (B (a + 2)) S) : RG (UA (UA B (a + 2) z v) a 3 (z + 1)) ∧ Fo a [a + 2] [3] A0 (UA (UA B (a + 2) z v) a 3 (z + 1)) ∧ (UA (UA B (a + 2) z v) a 3 (z + 1)) a 3 = ((v :: S).length : Int) ∧ ksK ((UA (UA B (a + 2) z v) a 3 (z + 1)) (a + 2)) (v :: S) := by
  refine ⟨rg_UA (rg_UA hB hv) ⟨by omega, by omega⟩, (hF.row (by simp) (by omega)).fld (by simp), by rw [UA_eq, List.length_cons]; omega, ?_, ksK_c S (fun i hi => ?_) hS⟩
  · rw [UA_c (by omega), ← hz, UA_eq]
  · rw [UA_c (by omega), UA_j (by omega)]
theorem pop_B {A0 A : Nat → Int → Int} {a : Nat} {S : List Int} {x z : Int} (hA : RG A) (hF : Fo a [a + 2] [3] A0 A) (hS : ksK (A (a + 2)) (x :: S)) (hz : z = S.length) (hl : (S.length : Int) ≤ 160) : RG (UA A a 3 z) ∧ Fo a [a + 2] [3] A0 (UA A a 3 z) ∧ ksK ((UA A a 3 z) (a + 2)) S ∧ A (a + 2) z = x :=
  ⟨rg_UA hA ⟨by omega, by omega⟩, hF.fld (by simp), ksK_c S (fun i _ => UA_c (by omega)) hS.2, by rw [hz]; exact hS.1⟩
theorem evs_p {fct : Int → Int} {w : Int} {r s : List Int} (h : 0 ≤ w) : evs fct (w :: r) s = evs fct r ((if w < 10000 then w else fct (w - 10000)) :: s) := by
  conv => lhs; unfold evs
  rw [if_pos h]
theorem evs_u {fct : Int → Int} {w x : Int} {r s : List Int} (h1 : ¬ 0 ≤ w) (h : w = -3 ∨ w = -9) : evs fct (w :: r) (x :: s) = evs fct r (evU w x :: s) := by
  conv => lhs; unfold evs
  rw [if_neg h1, if_pos h]
theorem evs_b {fct : Int → Int} {w x y : Int} {r s : List Int} (h1 : ¬ 0 ≤ w) (h : ¬ (w = -3 ∨ w = -9)) : evs fct (w :: r) (y :: x :: s) = evs fct r (m_both w x y :: s) := by
  conv => lhs; unfold evs
  rw [if_neg h1, if_neg h]
theorem both_jo {c x y : Int} (h : 0 ≤ lvC (-c)) : m_both (cm c) x y = k_joined x (-c) y := by
  rcases lvC_c rfl h with e | e | e | e | e | e | e
  all_goals (have e' : c = -(-c) := by omega); rw [e] at e'; subst e'; rfl
def partK (A : Nat → Int → Int) (W : gW) (a : Nat) (part : Int) : List Int := if part = 0 then upL (A (a + 1)) (A a 2).toNat 0 else upL (A (a + 1)) (gL W (a + 1) - (A a 2).toNat) (A a 2).toNat
theorem k_fct_c {A A' : Nat → Int → Int} {k : Nat} (h1 : A' k = A k) (h2 : A' (k + 1) = A (k + 1)) : k_fct A' k = k_fct A k := by unfold k_fct; rw [h1, h2]
theorem kct_r {A : Nat → Int → Int} (h : RG A) {k : Nat} {L : List Int} : ∀ S : List Int, (∀ x ∈ S, Rg x) → ∀ x ∈ evs (k_fct A k) L S, Rg x := by
  induction L with
  | nil => intro S hS; exact hS
  | cons w L ih =>
    intro S hS
    unfold evs
    split
    · refine ih _ (fun x hx => ?_)
      rcases List.mem_cons.mp hx with e | e
      · rw [e]; split
        · constructor <;> omega
        · exact rg_fct h
      · exact hS x e
    · split
      · cases S with
        | nil => intro x hx; exact absurd hx (by simp)
        | cons y S =>
          refine ih _ (fun x hx => ?_)
          rcases List.mem_cons.mp hx with e | e
          · rw [e]; exact rg_evU
          · exact hS x (by simp [e])
      · cases S with
        | nil => intro x hx; exact absurd hx (by simp)
        | cons y S =>
          cases S with
          | nil => intro x hx; exact absurd hx (by simp)
          | cons z S =>
            refine ih _ (fun x hx => ?_)
            rcases List.mem_cons.mp hx with e | e
            · rw [e]; exact rg_both
            · exact hS x (by simp [e])
theorem rg_evv {A : Nat → Int → Int} (h : RG A) {k : Nat} {L : List Int} : Rg (evv (k_fct A k) L) := by
  have := kct_r h (k := k) (L := L) [] (fun x hx => absurd hx (by simp))
  unfold evv
  cases e : evs (k_fct A k) L [] with
  | nil => show Rg 0; decide
  | cons x S => exact this x (by rw [e]; simp)
theorem V102_0 {d : Nat} (hd : 1 ≤ d) {Q : Option Value → xM → Prop} {W : gW} (hW : HW W) {A : Nat → Int → Int} {P : Nat → Int → Nat} (hR : RG A) (hT : Stat W P) (hG : GL W) {x1 : Int} {a0 a2 : Nat} (rr : Rg x1) (h : (((x1 = 0) → (gK W a0 = 10) ∧ (((x1 = 0) → wpE (xT 102) (xev xT d) Q (36, [(0, .ref (lo W a0)), (2, .ref (lo W a2)), (3, .int (iz (A a0 2))), (4, .int (iz 0))], [], Wm W (UA A a0 3 0) P)) ∧ (¬ (x1 = 0) → wpE (xT 102) (xev xT d) Q (36, [(0, .ref (lo W a0)), (2, .ref (lo W a2)), (3, .int (iz (A a0 2))), (4, .int (iz (A a0 2)))], [], Wm W (UA A a0 3 0) P)))) ∧ (¬ (x1 = 0) → (gK W a0 = 10) ∧ (P a0 0 = (a0 + 1) + 1) ∧ (gK W (a0 + 1) = 20) ∧ (((x1 = 0) → wpE (xT 102) (xev xT d) Q (36, [(0, .ref (lo W a0)), (2, .ref (lo W a2)), (3, .int (iz (gL W (a0 + 1) : Int))), (4, .int (iz 0))], [], Wm W (UA A a0 3 0) P)) ∧ (¬ (x1 = 0) → wpE (xT 102) (xev xT d) Q (36, [(0, .ref (lo W a0)), (2, .ref (lo W a2)), (3, .int (iz (gL W (a0 + 1) : Int))), (4, .int (iz (A a0 2)))], [], Wm W (UA A a0 3 0) P)))))) : wpE (xT 102) (xev xT d) Q (0, [(0, .ref (lo W a0)), (1, .int (iz x1)), (2, .ref (lo W a2))], [], Wm W A P) := by
  refine p_ild (cc3 c102_0) rfl ?_
  refine i_if (c' := x1 = 0) (cc3 c102_1) (c_eq0 rr) (fun c => ?_) (fun c => ?_)
  · have h := h.1 c
    refine p_ald (cc3 c102_4) rfl ?_
    obtain ⟨g1, h⟩ := h
    refine w_geti hW (v := A a0 2) (cc3 c102_5) g1 (ji := 2) rfl rfl ?_
    refine p_goto (cc3 c102_8) ?_
    refine p_ist (ls' := [(3, .int (iz (A a0 2))), (0, .ref (lo W a0)), (1, .int (iz x1)), (2, .ref (lo W a2))]) (cct c102_16 rfl) (by decide) rfl ?_
    refine p_ald (cc3 c102_17) rfl ?_
    refine i_push (n := 0) (cc3 c102_18) zl_0 ?_
    refine id (α := Rg 0 → _) (fun _ => ?_) (by decide : Rg (0 : Int)); refine w_puti hW (cc3 c102_19) g1 (ji := 3) rfl ?_
    refine p_ild (cc3 c102_22) rfl ?_
    refine i_if (c' := x1 = 0) (cc3 c102_23) (c_eq0 rr) (fun c => ?_) (fun c => ?_)
    · have h := h.1 c
      refine i_push (n := 0) (cc3 c102_26) zl_0 ?_
      refine p_goto (cc3 c102_27) ?_
      refine p_lc (ls' := [(0, .ref (lo W a0)), (2, .ref (lo W a2)), (3, .int (iz (A a0 2)))]) c102_34 rfl rfl ?_
      refine p_ist (ls' := [(4, .int (iz 0)), (0, .ref (lo W a0)), (2, .ref (lo W a2)), (3, .int (iz (A a0 2)))]) (cct c102_34 rfl) (by decide) rfl ?_
      exact p_lc (ls' := [(0, .ref (lo W a0)), (2, .ref (lo W a2)), (3, .int (iz (A a0 2))), (4, .int (iz 0))]) c102_36 rfl rfl h
    · have h := h.2 c
      refine p_ald (cc3 c102_30) rfl ?_
      refine w_geti hW (v := A a0 2) (cc3 c102_31) g1 (ji := 2) rfl (by first | rfl | exact UA_eq | exact UA_j (by decide) | exact UA_c (by decide)) ?_
      refine p_lc (ls' := [(0, .ref (lo W a0)), (2, .ref (lo W a2)), (3, .int (iz (A a0 2)))]) c102_34 rfl rfl ?_
      refine p_ist (ls' := [(4, .int (iz (A a0 2))), (0, .ref (lo W a0)), (2, .ref (lo W a2)), (3, .int (iz (A a0 2)))]) (cct c102_34 rfl) (by decide) rfl ?_
      exact p_lc (ls' := [(0, .ref (lo W a0)), (2, .ref (lo W a2)), (3, .int (iz (A a0 2))), (4, .int (iz (A a0 2)))]) c102_36 rfl rfl h
  · have h := h.2 c
    refine p_ald (cc3 c102_11) rfl ?_
    obtain ⟨g1, h⟩ := h
    obtain ⟨g2, h⟩ := h
    refine w_getp hW hT.1 (b := a0 + 1) (cc3 c102_12) g1 (ji := 0) rfl g2 ?_
    obtain ⟨g3, h⟩ := h
    refine w_len hW (cc3 c102_15) g3 ?_
    refine p_ist (ls' := [(3, .int (iz (gL W (a0 + 1) : Int))), (0, .ref (lo W a0)), (1, .int (iz x1)), (2, .ref (lo W a2))]) (cct c102_16 rfl) (by decide) rfl ?_
    refine p_ald (cc3 c102_17) rfl ?_
    refine i_push (n := 0) (cc3 c102_18) zl_0 ?_
    refine id (α := Rg 0 → _) (fun _ => ?_) (by decide : Rg (0 : Int)); refine w_puti hW (cc3 c102_19) g1 (ji := 3) rfl ?_
    refine p_ild (cc3 c102_22) rfl ?_
    refine i_if (c' := x1 = 0) (cc3 c102_23) (c_eq0 rr) (fun c => ?_) (fun c => ?_)
    · have h := h.1 c
      refine i_push (n := 0) (cc3 c102_26) zl_0 ?_
      refine p_goto (cc3 c102_27) ?_
      refine p_lc (ls' := [(0, .ref (lo W a0)), (2, .ref (lo W a2)), (3, .int (iz (gL W (a0 + 1) : Int)))]) c102_34 rfl rfl ?_
      refine p_ist (ls' := [(4, .int (iz 0)), (0, .ref (lo W a0)), (2, .ref (lo W a2)), (3, .int (iz (gL W (a0 + 1) : Int)))]) (cct c102_34 rfl) (by decide) rfl ?_
      exact p_lc (ls' := [(0, .ref (lo W a0)), (2, .ref (lo W a2)), (3, .int (iz (gL W (a0 + 1) : Int))), (4, .int (iz 0))]) c102_36 rfl rfl h
    · have h := h.2 c
      refine p_ald (cc3 c102_30) rfl ?_
      refine w_geti hW (v := A a0 2) (cc3 c102_31) g1 (ji := 2) rfl (by first | rfl | exact UA_eq | exact UA_j (by decide) | exact UA_c (by decide)) ?_
      refine p_lc (ls' := [(0, .ref (lo W a0)), (2, .ref (lo W a2)), (3, .int (iz (gL W (a0 + 1) : Int)))]) c102_34 rfl rfl ?_
      refine p_ist (ls' := [(4, .int (iz (A a0 2))), (0, .ref (lo W a0)), (2, .ref (lo W a2)), (3, .int (iz (gL W (a0 + 1) : Int)))]) (cct c102_34 rfl) (by decide) rfl ?_
      exact p_lc (ls' := [(0, .ref (lo W a0)), (2, .ref (lo W a2)), (3, .int (iz (gL W (a0 + 1) : Int))), (4, .int (iz (A a0 2)))]) c102_36 rfl rfl h
theorem V102_36 {d : Nat} (hd : 1 ≤ d) {Q : Option Value → xM → Prop} {W : gW} (hW : HW W) {A : Nat → Int → Int} {P : Nat → Int → Nat} (hR : RG A) (hT : Stat W P) (hG : GL W) {x3 x4 : Int} {a0 a2 : Nat} (rr : Rg x3 ∧ Rg x4) (h : (((x3 ≤ x4) → (OTx W P a0) ∧ (1 ≤ A a0 3 ∧ A a0 3 ≤ (gL W (a0 + 2) : Int)) ∧ (gK W a0 = 10) ∧ Q (some (.int (iz (A (a0 + 2) (A a0 3 - 1))))) (Wm W (UA A a0 3 (A a0 3 - 1)) P)) ∧ (¬ (x3 ≤ x4) → (gK W a0 = 10) ∧ (P a0 0 = (a0 + 1) + 1) ∧ (gK W (a0 + 1) = 20) ∧ (Rg (gL W (a0 + 1) : Int)) ∧ ((((gL W (a0 + 1) : Int) ≤ x4) → (OTx W P a0) ∧ (1 ≤ A a0 3 ∧ A a0 3 ≤ (gL W (a0 + 2) : Int)) ∧ Q (some (.int (iz (A (a0 + 2) (A a0 3 - 1))))) (Wm W (UA A a0 3 (A a0 3 - 1)) P)) ∧ (¬ ((gL W (a0 + 1) : Int) ≤ x4) → (0 ≤ x4 ∧ x4 < gL W (a0 + 1) ∧ x4 ≤ 2147483647) ∧ ((((A (a0 + 1) x4) < 10000) → ((((A (a0 + 1) x4) < 0) → ((((A (a0 + 1) x4) = (-204)) → (OTx W P a0) ∧ (1 ≤ A a0 3 ∧ A a0 3 ≤ (gL W (a0 + 2) : Int)) ∧ ((((A (a0 + 2) (A a0 3 - 1)) = 0) → (0 ≤ (UA A a0 3 (A a0 3 - 1)) a0 3 ∧ (UA A a0 3 (A a0 3 - 1)) a0 3 < (gL W (a0 + 2) : Int)) ∧ (Rg (x4 + 1)) ∧ wpE (xT 102) (xev xT d) Q (36, [(0, .ref (lo W a0)), (2, .ref (lo W a2)), (3, .int (iz x3)), (4, .int (iz (x4 + 1)))], [], Wm W (UA (UA (UA A a0 3 (A a0 3 - 1)) (a0 + 2) ((UA A a0 3 (A a0 3 - 1)) a0 3) 1) a0 3 ((UA A a0 3 (A a0 3 - 1)) a0 3 + 1)) P)) ∧ (¬ ((A (a0 + 2) (A a0 3 - 1)) = 0) → (0 ≤ (UA A a0 3 (A a0 3 - 1)) a0 3 ∧ (UA A a0 3 (A a0 3 - 1)) a0 3 < (gL W (a0 + 2) : Int)) ∧ (Rg (x4 + 1)) ∧ wpE (xT 102) (xev xT d) Q (36, [(0, .ref (lo W a0)), (2, .ref (lo W a2)), (3, .int (iz x3)), (4, .int (iz (x4 + 1)))], [], Wm W (UA (UA (UA A a0 3 (A a0 3 - 1)) (a0 + 2) ((UA A a0 3 (A a0 3 - 1)) a0 3) 0) a0 3 ((UA A a0 3 (A a0 3 - 1)) a0 3 + 1)) P)))) ∧ (¬ ((A (a0 + 1) x4) = (-204)) → ((((A (a0 + 1) x4) = (-300)) → (OTx W P a0) ∧ (1 ≤ A a0 3 ∧ A a0 3 ≤ (gL W (a0 + 2) : Int)) ∧ (0 ≤ (UA A a0 3 (A a0 3 - 1)) a0 3 ∧ (UA A a0 3 (A a0 3 - 1)) a0 3 < (gL W (a0 + 2) : Int)) ∧ (Rg (x4 + 1)) ∧ wpE (xT 102) (xev xT d) Q (36, [(0, .ref (lo W a0)), (2, .ref (lo W a2)), (3, .int (iz x3)), (4, .int (iz (x4 + 1)))], [], Wm W (UA (UA (UA A a0 3 (A a0 3 - 1)) (a0 + 2) ((UA A a0 3 (A a0 3 - 1)) a0 3) (wr (-(A (a0 + 2) (A a0 3 - 1))))) a0 3 ((UA A a0 3 (A a0 3 - 1)) a0 3 + 1)) P)) ∧ (¬ ((A (a0 + 1) x4) = (-300)) → (OTx W P a0) ∧ (1 ≤ A a0 3 ∧ A a0 3 ≤ (gL W (a0 + 2) : Int)) ∧ (1 ≤ (UA A a0 3 (A a0 3 - 1)) a0 3 ∧ (UA A a0 3 (A a0 3 - 1)) a0 3 ≤ (gL W (a0 + 2) : Int)) ∧ (0 ≤ (UA (UA A a0 3 (A a0 3 - 1)) a0 3 ((UA A a0 3 (A a0 3 - 1)) a0 3 - 1)) a0 3 ∧ (UA (UA A a0 3 (A a0 3 - 1)) a0 3 ((UA A a0 3 (A a0 3 - 1)) a0 3 - 1)) a0 3 < (gL W (a0 + 2) : Int)) ∧ (Rg (x4 + 1)) ∧ wpE (xT 102) (xev xT d) Q (36, [(0, .ref (lo W a0)), (2, .ref (lo W a2)), (3, .int (iz x3)), (4, .int (iz (x4 + 1)))], [], Wm W (UA (UA (UA (UA A a0 3 (A a0 3 - 1)) a0 3 ((UA A a0 3 (A a0 3 - 1)) a0 3 - 1)) (a0 + 2) ((UA (UA A a0 3 (A a0 3 - 1)) a0 3 ((UA A a0 3 (A a0 3 - 1)) a0 3 - 1)) a0 3) (k_joined ((UA A a0 3 (A a0 3 - 1)) (a0 + 2) ((UA A a0 3 (A a0 3 - 1)) a0 3 - 1)) (wr (-(A (a0 + 1) x4))) (A (a0 + 2) (A a0 3 - 1)))) a0 3 ((UA (UA A a0 3 (A a0 3 - 1)) a0 3 ((UA A a0 3 (A a0 3 - 1)) a0 3 - 1)) a0 3 + 1)) P)))))) ∧ (¬ ((A (a0 + 1) x4) < 0) → (OTx W P a0) ∧ (0 ≤ A a0 3 ∧ A a0 3 < (gL W (a0 + 2) : Int)) ∧ (Rg (x4 + 1)) ∧ wpE (xT 102) (xev xT d) Q (36, [(0, .ref (lo W a0)), (2, .ref (lo W a2)), (3, .int (iz x3)), (4, .int (iz (x4 + 1)))], [], Wm W (UA (UA A (a0 + 2) (A a0 3) (A (a0 + 1) x4)) a0 3 (A a0 3 + 1)) P)))) ∧ (¬ ((A (a0 + 1) x4) < 10000) → (Rg ((A (a0 + 1) x4) - 10000)) ∧ (OKi W P A a2) ∧ (OTx W P a0) ∧ (0 ≤ A a0 3 ∧ A a0 3 < (gL W (a0 + 2) : Int)) ∧ (Rg (x4 + 1)) ∧ wpE (xT 102) (xev xT d) Q (36, [(0, .ref (lo W a0)), (2, .ref (lo W a2)), (3, .int (iz x3)), (4, .int (iz (x4 + 1)))], [], Wm W (UA (UA A (a0 + 2) (A a0 3) (k_fct A a2 ((A (a0 + 1) x4) - 10000))) a0 3 (A a0 3 + 1)) P)))))))) : wpE (xT 102) (xev xT d) Q (36, [(0, .ref (lo W a0)), (2, .ref (lo W a2)), (3, .int (iz x3)), (4, .int (iz x4))], [], Wm W A P) := by
  refine p_ild (cct c102_36 rfl) rfl ?_
  refine p_ild (cc3 c102_38) rfl ?_
  refine i_icmp (c' := x3 ≤ x4) (cc3 c102_39) (iz_le rr.1 rr.2) (fun c => ?_) (fun c => ?_)
  · have h := h.1 c
    refine p_lc (ls' := [(0, .ref (lo W a0))]) c102_179 rfl rfl ?_
    refine p_ald (cct c102_179 rfl) rfl ?_
    obtain ⟨g1, h⟩ := h
    obtain ⟨g2, h⟩ := h
    obtain ⟨g3, h⟩ := h
    refine p_callV (cc3 c102_180) (Nat.le_of_ble_eq_true rfl) rfl rfl (Nat.le_of_ble_eq_true rfl) (wk_kd hW (by decide) g3) (S105 (Nat.le_trans (by decide) hd) hW hR hT hG ⟨g1, g2⟩) ?_
    exact p_ri (cc3 c102_183) trivial h
  · have h := h.2 c
    refine p_ild (cc3 c102_42) rfl ?_
    refine p_ald (cc3 c102_44) rfl ?_
    obtain ⟨g1, h⟩ := h
    obtain ⟨g2, h⟩ := h
    refine w_getp hW hT.1 (b := a0 + 1) (cc3 c102_45) g1 (ji := 0) rfl g2 ?_
    obtain ⟨g3, h⟩ := h
    refine w_len hW (cc3 c102_48) g3 ?_
    obtain ⟨g4, h⟩ := h
    refine i_icmp (c' := (gL W (a0 + 1) : Int) ≤ x4) (cc3 c102_49) (iz_le g4 rr.2) (fun c => ?_) (fun c => ?_)
    · have h := h.1 c
      refine p_lc (ls' := [(0, .ref (lo W a0))]) c102_179 rfl rfl ?_
      refine p_ald (cct c102_179 rfl) rfl ?_
      obtain ⟨g5, h⟩ := h
      obtain ⟨g6, h⟩ := h
      refine p_callV (cc3 c102_180) (Nat.le_of_ble_eq_true rfl) rfl rfl (Nat.le_of_ble_eq_true rfl) (wk_kd hW (by decide) g1) (S105 (Nat.le_trans (by decide) hd) hW hR hT hG ⟨g5, g6⟩) ?_
      exact p_ri (cc3 c102_183) trivial h
    · have h := h.2 c
      refine p_ald (cc3 c102_52) rfl ?_
      refine w_getp hW hT.1 (b := a0 + 1) (cc3 c102_53) g1 (ji := 0) rfl g2 ?_
      refine p_ild (cc3 c102_56) rfl ?_
      obtain ⟨g5, h⟩ := h
      refine w_aldi hW (v := A (a0 + 1) x4) (cc3 c102_58) g3 g5 rfl ?_
      refine p_ist (ls' := [(5, .int (iz (A (a0 + 1) x4))), (0, .ref (lo W a0)), (2, .ref (lo W a2)), (3, .int (iz x3)), (4, .int (iz x4))]) (cc3 c102_59) (by decide) rfl ?_
      refine p_ild (cc3 c102_61) rfl ?_
      refine i_push (n := 10000) (cc3 c102_63) zl_10000 ?_
      refine i_icmp (c' := (A (a0 + 1) x4) < 10000) (cc3 c102_66) (iz_lt (hR (a0 + 1) x4) (by decide : Rg (10000 : Int))) (fun c => ?_) (fun c => ?_)
      · have h := h.1 c
        refine p_ild (cc3 c102_86) rfl ?_
        refine i_if (c' := (A (a0 + 1) x4) < 0) (cc3 c102_88) (c_lt0 (hR (a0 + 1) x4)) (fun c => ?_) (fun c => ?_)
        · have h := h.1 c
          refine p_ild (cc3 c102_100) rfl ?_
          refine i_push (n := (-204)) (cc3 c102_102) zl_m204 ?_
          refine i_icmp (c' := (A (a0 + 1) x4) = (-204)) (cc3 c102_105) (iz_inj (hR (a0 + 1) x4) (by decide : Rg (-204 : Int))) (fun c => ?_) (fun c => ?_)
          · have h := h.1 c
            refine p_ald (cc3 c102_108) rfl ?_
            refine p_ald (cc3 c102_109) rfl ?_
            obtain ⟨g6, h⟩ := h
            obtain ⟨g7, h⟩ := h
            refine p_callV (cc3 c102_110) (Nat.le_of_ble_eq_true rfl) rfl rfl (Nat.le_of_ble_eq_true rfl) (wk_kd hW (by decide) g1) (S105 (Nat.le_trans (by decide) hd) hW hR hT hG ⟨g6, g7⟩) ?_
            refine i_if (c' := (A (a0 + 2) (A a0 3 - 1)) = 0) (cc3 c102_113) (c_eq0 (hR _ _)) (fun c => ?_) (fun c => ?_)
            · have h := h.1 c
              refine i_push (n := 1) (cc3 c102_116) zl_1 ?_
              refine p_goto (cc3 c102_117) ?_
              refine p_lc (ls' := [(0, .ref (lo W a0)), (2, .ref (lo W a2)), (3, .int (iz x3)), (4, .int (iz x4))]) c102_121 rfl rfl ?_
              obtain ⟨g8, h⟩ := h
              refine p_callV (cct c102_121 rfl) (Nat.le_of_ble_eq_true rfl) rfl rfl (Nat.le_of_ble_eq_true rfl) (wk_kd hW (by decide) g1) (S104 (Nat.le_trans (by decide) hd) hW (rg_pop hR ⟨g6, g7⟩) hT hG (by decide : Rg (1 : Int)) ⟨g6, g8⟩) ?_
              refine p_goto (cc3 c102_124) ?_
              obtain ⟨g9, h⟩ := h
              refine (fun _ : Rg (x4 + 1) => i_iinc (n := 1) (y := x4 + 1) (ls' := [(4, .int (iz (x4 + 1))), (0, .ref (lo W a0)), (2, .ref (lo W a2)), (3, .int (iz x3))]) (cct c102_173 rfl) (by decide) rfl zl_1 (by first | rfl | omega) rfl ?_) g9
              refine p_goto (cc3 c102_176) ?_
              exact p_lc (ls' := [(0, .ref (lo W a0)), (2, .ref (lo W a2)), (3, .int (iz x3)), (4, .int (iz (x4 + 1)))]) c102_36 rfl rfl h
            · have h := h.2 c
              refine i_push (n := 0) (cc3 c102_120) zl_0 ?_
              refine p_lc (ls' := [(0, .ref (lo W a0)), (2, .ref (lo W a2)), (3, .int (iz x3)), (4, .int (iz x4))]) c102_121 rfl rfl ?_
              obtain ⟨g8, h⟩ := h
              refine p_callV (cct c102_121 rfl) (Nat.le_of_ble_eq_true rfl) rfl rfl (Nat.le_of_ble_eq_true rfl) (wk_kd hW (by decide) g1) (S104 (Nat.le_trans (by decide) hd) hW (rg_pop hR ⟨g6, g7⟩) hT hG (by decide : Rg (0 : Int)) ⟨g6, g8⟩) ?_
              refine p_goto (cc3 c102_124) ?_
              obtain ⟨g9, h⟩ := h
              refine (fun _ : Rg (x4 + 1) => i_iinc (n := 1) (y := x4 + 1) (ls' := [(4, .int (iz (x4 + 1))), (0, .ref (lo W a0)), (2, .ref (lo W a2)), (3, .int (iz x3))]) (cct c102_173 rfl) (by decide) rfl zl_1 (by first | rfl | omega) rfl ?_) g9
              refine p_goto (cc3 c102_176) ?_
              exact p_lc (ls' := [(0, .ref (lo W a0)), (2, .ref (lo W a2)), (3, .int (iz x3)), (4, .int (iz (x4 + 1)))]) c102_36 rfl rfl h
          · have h := h.2 c
            refine p_ild (cc3 c102_127) rfl ?_
            refine i_push (n := (-300)) (cc3 c102_129) zl_m300 ?_
            refine i_icmp (c' := (A (a0 + 1) x4) = (-300)) (cc3 c102_132) (iz_inj (hR (a0 + 1) x4) (by decide : Rg (-300 : Int))) (fun c => ?_) (fun c => ?_)
            · have h := h.1 c
              refine p_ald (cc3 c102_135) rfl ?_
              refine p_ald (cc3 c102_136) rfl ?_
              obtain ⟨g6, h⟩ := h
              obtain ⟨g7, h⟩ := h
              refine p_callV (cc3 c102_137) (Nat.le_of_ble_eq_true rfl) rfl rfl (Nat.le_of_ble_eq_true rfl) (wk_kd hW (by decide) g1) (S105 (Nat.le_trans (by decide) hd) hW hR hT hG ⟨g6, g7⟩) ?_
              refine i_un (z := wr (-(A (a0 + 2) (A a0 3 - 1)))) (cc3 c102_140) (iz_neg.trans (iz_of _).symm) ?_
              obtain ⟨g8, h⟩ := h
              refine p_callV (cc3 c102_141) (Nat.le_of_ble_eq_true rfl) rfl rfl (Nat.le_of_ble_eq_true rfl) (wk_kd hW (by decide) g1) (S104 (Nat.le_trans (by decide) hd) hW (rg_pop hR ⟨g6, g7⟩) hT hG rg_wr ⟨g6, g8⟩) ?_
              refine p_goto (cc3 c102_144) ?_
              refine p_lc (ls' := [(0, .ref (lo W a0)), (2, .ref (lo W a2)), (3, .int (iz x3)), (4, .int (iz x4))]) c102_173 rfl rfl ?_
              obtain ⟨g9, h⟩ := h
              refine (fun _ : Rg (x4 + 1) => i_iinc (n := 1) (y := x4 + 1) (ls' := [(4, .int (iz (x4 + 1))), (0, .ref (lo W a0)), (2, .ref (lo W a2)), (3, .int (iz x3))]) (cct c102_173 rfl) (by decide) rfl zl_1 (by first | rfl | omega) rfl ?_) g9
              refine p_goto (cc3 c102_176) ?_
              exact p_lc (ls' := [(0, .ref (lo W a0)), (2, .ref (lo W a2)), (3, .int (iz x3)), (4, .int (iz (x4 + 1)))]) c102_36 rfl rfl h
            · have h := h.2 c
              refine p_ald (cc3 c102_147) rfl ?_
              obtain ⟨g6, h⟩ := h
              obtain ⟨g7, h⟩ := h
              refine p_callV (cc3 c102_148) (Nat.le_of_ble_eq_true rfl) rfl rfl (Nat.le_of_ble_eq_true rfl) (wk_kd hW (by decide) g1) (S105 (Nat.le_trans (by decide) hd) hW hR hT hG ⟨g6, g7⟩) ?_
              refine p_ist (ls' := [(6, .int (iz (A (a0 + 2) (A a0 3 - 1)))), (5, .int (iz (A (a0 + 1) x4))), (0, .ref (lo W a0)), (2, .ref (lo W a2)), (3, .int (iz x3)), (4, .int (iz x4))]) (cc3 c102_151) (by decide) rfl ?_
              refine p_ald (cc3 c102_153) rfl ?_
              obtain ⟨g8, h⟩ := h
              refine p_callV (cc3 c102_154) (Nat.le_of_ble_eq_true rfl) rfl rfl (Nat.le_of_ble_eq_true rfl) (wk_kd hW (by decide) g1) (S105 (Nat.le_trans (by decide) hd) hW (rg_pop hR ⟨g6, g7⟩) hT hG ⟨g6, g8⟩) ?_
              refine p_ist (ls' := [(7, .int (iz ((UA A a0 3 (A a0 3 - 1)) (a0 + 2) ((UA A a0 3 (A a0 3 - 1)) a0 3 - 1)))), (6, .int (iz (A (a0 + 2) (A a0 3 - 1)))), (5, .int (iz (A (a0 + 1) x4))), (0, .ref (lo W a0)), (2, .ref (lo W a2)), (3, .int (iz x3)), (4, .int (iz x4))]) (cc3 c102_157) (by decide) rfl ?_
              refine p_ald (cc3 c102_159) rfl ?_
              refine p_ild (cc3 c102_160) rfl ?_
              refine p_ild (cc3 c102_162) rfl ?_
              refine i_un (z := wr (-(A (a0 + 1) x4))) (cc3 c102_164) (iz_neg.trans (iz_of _).symm) ?_
              refine p_ild (cc3 c102_165) rfl ?_
              refine p_callS (cc3 c102_167) (Nat.le_of_ble_eq_true rfl) rfl rfl (Nat.le_of_ble_eq_true rfl) (S106 (Nat.le_trans (by decide) hd) ⟨((rg_pop hR ⟨g6, g7⟩) _ _), rg_wr, (hR _ _)⟩) ?_
              obtain ⟨g9, h⟩ := h
              refine p_callV (cc3 c102_170) (Nat.le_of_ble_eq_true rfl) rfl rfl (Nat.le_of_ble_eq_true rfl) (wk_kd hW (by decide) g1) (S104 (Nat.le_trans (by decide) hd) hW (rg_pop (rg_pop hR ⟨g6, g7⟩) ⟨g6, g8⟩) hT hG rg_jo ⟨g6, g9⟩) ?_
              refine p_lc (ls' := [(0, .ref (lo W a0)), (2, .ref (lo W a2)), (3, .int (iz x3)), (4, .int (iz x4))]) c102_173 rfl rfl ?_
              obtain ⟨g10, h⟩ := h
              refine (fun _ : Rg (x4 + 1) => i_iinc (n := 1) (y := x4 + 1) (ls' := [(4, .int (iz (x4 + 1))), (0, .ref (lo W a0)), (2, .ref (lo W a2)), (3, .int (iz x3))]) (cct c102_173 rfl) (by decide) rfl zl_1 (by first | rfl | omega) rfl ?_) g10
              refine p_goto (cc3 c102_176) ?_
              exact p_lc (ls' := [(0, .ref (lo W a0)), (2, .ref (lo W a2)), (3, .int (iz x3)), (4, .int (iz (x4 + 1)))]) c102_36 rfl rfl h
        · have h := h.2 c
          refine p_ald (cc3 c102_91) rfl ?_
          refine p_ild (cc3 c102_92) rfl ?_
          obtain ⟨g6, h⟩ := h
          obtain ⟨g7, h⟩ := h
          refine p_callV (cc3 c102_94) (Nat.le_of_ble_eq_true rfl) rfl rfl (Nat.le_of_ble_eq_true rfl) (wk_kd hW (by decide) g1) (S104 (Nat.le_trans (by decide) hd) hW hR hT hG (hR (a0 + 1) x4) ⟨g6, g7⟩) ?_
          refine p_goto (cc3 c102_97) ?_
          refine p_lc (ls' := [(0, .ref (lo W a0)), (2, .ref (lo W a2)), (3, .int (iz x3)), (4, .int (iz x4))]) c102_173 rfl rfl ?_
          obtain ⟨g8, h⟩ := h
          refine (fun _ : Rg (x4 + 1) => i_iinc (n := 1) (y := x4 + 1) (ls' := [(4, .int (iz (x4 + 1))), (0, .ref (lo W a0)), (2, .ref (lo W a2)), (3, .int (iz x3))]) (cct c102_173 rfl) (by decide) rfl zl_1 (by first | rfl | omega) rfl ?_) g8
          refine p_goto (cc3 c102_176) ?_
          exact p_lc (ls' := [(0, .ref (lo W a0)), (2, .ref (lo W a2)), (3, .int (iz x3)), (4, .int (iz (x4 + 1)))]) c102_36 rfl rfl h
      · have h := h.2 c
        refine p_ald (cc3 c102_69) rfl ?_
        refine p_ild (cc3 c102_70) rfl ?_
        refine i_push (n := 10000) (cc3 c102_72) zl_10000 ?_
        obtain ⟨g6, h⟩ := h
        refine (fun _ : Rg ((A (a0 + 1) x4) - 10000) => i_sub (cc3 c102_75) ?_) g6
        refine p_ald (cc3 c102_76) rfl ?_
        obtain ⟨g7, h⟩ := h
        refine p_callS (cc3 c102_77) (Nat.le_of_ble_eq_true rfl) rfl rfl (Nat.le_of_ble_eq_true rfl) (S103 (Nat.le_trans (by decide) hd) hW hR hT hG g6 g7) ?_
        obtain ⟨g8, h⟩ := h
        obtain ⟨g9, h⟩ := h
        refine p_callV (cc3 c102_80) (Nat.le_of_ble_eq_true rfl) rfl rfl (Nat.le_of_ble_eq_true rfl) (wk_kd hW (by decide) g1) (S104 (Nat.le_trans (by decide) hd) hW hR hT hG (rg_fct hR) ⟨g8, g9⟩) ?_
        refine p_goto (cc3 c102_83) ?_
        refine p_lc (ls' := [(0, .ref (lo W a0)), (2, .ref (lo W a2)), (3, .int (iz x3)), (4, .int (iz x4))]) c102_173 rfl rfl ?_
        obtain ⟨g10, h⟩ := h
        refine (fun _ : Rg (x4 + 1) => i_iinc (n := 1) (y := x4 + 1) (ls' := [(4, .int (iz (x4 + 1))), (0, .ref (lo W a0)), (2, .ref (lo W a2)), (3, .int (iz x3))]) (cct c102_173 rfl) (by decide) rfl zl_1 (by first | rfl | omega) rfl ?_) g10
        refine p_goto (cc3 c102_176) ?_
        exact p_lc (ls' := [(0, .ref (lo W a0)), (2, .ref (lo W a2)), (3, .int (iz x3)), (4, .int (iz (x4 + 1)))]) c102_36 rfl rfl h

theorem L102 {d : Nat} (hd : 1 ≤ d) {Q : Option Value → xM → Prop} {W : gW} (hW : HW W) {A0 : Nat → Int → Int} {P : Nat → Int → Nat} (hT : Stat W P) (hG : GL W) {a k to : Nat} (ht : OTx W P a) (hk : OKi W P A0 k) (hlen : gL W (a + 2) = gL W (a + 1)) (hto : to ≤ gL W (a + 1)) :
    ∀ (n c : Nat) (S : List Int) (A : Nat → Int → Int), c + n = to → RG A → Fo a [a + 2] [3] A0 A → A a 3 = (S.length : Int) → ksK (A (a + 2)) S → S.length + n ≤ gL W (a + 2) → (∀ x ∈ upL (A0 (a + 1)) n c, cdOK x) → vs (upL (A0 (a + 1)) n c) S.length = some 1 →
    (∀ A', RG A' → Fo a [a + 2] [3] A0 A' → Q (some (.int (iz ((evs (k_fct A0 k) ((upL (A0 (a + 1)) n c).map cm) S).headD 0)))) (Wm W A' P)) →
    wpE (xT 102) (xev xT d) Q (36, [(0, .ref (lo W a)), (2, .ref (lo W k)), (3, .int (iz to)), (4, .int (iz c))], [], Wm W A P) := by
  have ht' := ht
  obtain ⟨⟨k10, ka, kb⟩, ⟨q1, q2⟩, l1, l2⟩ := ht'
  have kk := hk.1
  have kl := hk.2.2.1.1.1
  have nk : ¬ k = a ∧ ¬ k = a + 2 ∧ ¬ k + 1 = a ∧ ¬ k + 1 = a + 2 := ⟨fun e => by rw [e] at kk; omega, fun e => by rw [e] at kk; omega, fun e => by rw [e] at kl; omega, fun e => by rw [e] at kl; omega⟩
  intro n
  induction n with
  | zero =>
    intro c S A hc hR hF h3 hS hroom hcd hv hQ
    have hcc : c = to := hc
    have hv' : some S.length = some 1 := hv
    have hv1 : S.length = 1 := Option.some.inj hv'
    cases S with
    | nil => exact absurd hv1 (by simp)
    | cons x S =>
      have hz : A a 3 - 1 = (S.length : Int) := by rw [h3, List.length_cons]; omega
      have hS0 : S.length = 0 := by rw [List.length_cons] at hv1; omega
      obtain ⟨r1, f1, -, e1⟩ := pop_B hR hF hS hz (by omega)
      refine V102_36 hd hW hR hT hG ⟨⟨by omega, by omega⟩, ⟨by omega, by omega⟩⟩ ⟨fun _ => ⟨ht, ⟨by omega, by rw [List.length_cons] at hroom; omega⟩, k10, ?_⟩, fun z => absurd (by omega) z⟩
      have := hQ (UA A a 3 (A a 3 - 1)) r1 f1
      rw [e1]
      exact this
  | succ n ih =>
    intro c S A hc hR hF h3 hS hroom hcd hv hQ
    have ec : A (a + 1) = A0 (a + 1) := hF.1 (a + 1) (by simp) (by omega)
    have efc : k_fct A k = k_fct A0 k := k_fct_c (hF.1 k (by simp; exact nk.2.1) nk.1) (hF.1 (k + 1) (by simp; omega) nk.2.2.1)
    have eL : upL (A0 (a + 1)) (n + 1) c = A0 (a + 1) c :: upL (A0 (a + 1)) n (c + 1) := rfl
    rw [eL] at hcd hv hQ
    have hx := hcd (A0 (a + 1) c) (by simp)
    have hcd' : ∀ x ∈ upL (A0 (a + 1)) n (c + 1), cdOK x := fun x hx => hcd x (by simp [hx])
    have hrx := hR (a + 1) c
    generalize hxe : A0 (a + 1) c = x at hx hcd hv hQ
    have hxA : A (a + 1) c = x := by rw [ec]; exact hxe
    have hcm := cm_c hx
    have hlS : (S.length : Int) ≤ 160 := by omega
    rw [hxA] at hrx
    have fin : ∀ (S' : List Int) (B : Nat → Int → Int), (RG B ∧ Fo a [a + 2] [3] A0 B ∧ B a 3 = (S'.length : Int) ∧ ksK (B (a + 2)) S') → S'.length ≤ S.length + 1 → vs (upL (A0 (a + 1)) n (c + 1)) S'.length = some 1 → evs (k_fct A0 k) (cm x :: (upL (A0 (a + 1)) n (c + 1)).map cm) S = evs (k_fct A0 k) ((upL (A0 (a + 1)) n (c + 1)).map cm) S' → wpE (xT 102) (xev xT d) Q (36, [(0, .ref (lo W a)), (2, .ref (lo W k)), (3, .int (iz to)), (4, .int (iz ((c : Int) + 1)))], [], Wm W B P) := fun S' B hB hl hv' he => by
      refine ih (c + 1) S' B (by omega) hB.1 hB.2.1 hB.2.2.1 hB.2.2.2 (by omega) hcd' hv' (fun A' r' f' => ?_)
      have := hQ A' r' f'
      rw [List.map_cons, he] at this
      exact this
    have c1 : Rg ((c : Int) + 1) := ⟨by omega, by omega⟩
    refine V102_36 hd hW hR hT hG ⟨⟨by omega, by omega⟩, ⟨by omega, by omega⟩⟩ ⟨fun z => absurd z (by omega), fun _ => ⟨k10, q1, ka, ⟨by omega, by omega⟩, fun z => absurd z (by omega), fun _ => ⟨⟨by omega, by omega, by omega⟩, ?_⟩⟩⟩
    rw [hxA]
    refine ⟨fun b1 => ⟨fun b2 => ⟨fun b3 => ?_, fun b3 => ⟨fun b4 => ?_, fun b4 => ?_⟩⟩, fun b2 => ⟨ht, ⟨by omega, by omega⟩, c1, ?_⟩⟩, fun b1 => ⟨⟨by omega, by omega⟩, hk.c (hF.1 k (by simp; exact nk.2.1) nk.1), ht, ⟨by omega, by omega⟩, c1, ?_⟩⟩
    · unfold vs at hv
      rw [if_neg (by omega), if_pos (Or.inl b3)] at hv
      cases S with
      | nil => exact absurd hv (by simp)
      | cons y S =>
        rw [if_pos (by simp)] at hv
        have hz : A a 3 - 1 = (S.length : Int) := by rw [h3, List.length_cons]; omega
        rw [List.length_cons] at hlS hroom
        obtain ⟨r1, f1, s1, e1⟩ := pop_B hR hF hS hz (by omega)
        rw [e1, UA_eq]
        subst b3
        refine ⟨ht, ⟨by omega, by omega⟩, fun b4 => ⟨⟨by omega, by omega⟩, c1, ?_⟩, fun b4 => ⟨⟨by omega, by omega⟩, c1, ?_⟩⟩
        · exact fin (1 :: S) _ (psh_B r1 (by decide) hz (by omega) f1 s1) (by simp) hv (by rw [evs_u (by decide) (by decide)]; have : evU (cm (-204)) y = 1 := bI_t b4; rw [this])
        · exact fin (0 :: S) _ (psh_B r1 (by decide) hz (by omega) f1 s1) (by simp) hv (by rw [evs_u (by decide) (by decide)]; have : evU (cm (-204)) y = 0 := bI_f b4; rw [this])
    · unfold vs at hv
      rw [if_neg (by omega), if_pos (Or.inr b4)] at hv
      cases S with
      | nil => exact absurd hv (by simp)
      | cons y S =>
        rw [if_pos (by simp)] at hv
        have hz : A a 3 - 1 = (S.length : Int) := by rw [h3, List.length_cons]; omega
        rw [List.length_cons] at hlS hroom
        obtain ⟨r1, f1, s1, e1⟩ := pop_B hR hF hS hz (by omega)
        rw [e1, UA_eq]
        subst b4
        refine ⟨ht, ⟨by omega, by omega⟩, ⟨by omega, by omega⟩, c1, ?_⟩
        exact fin (wr (-y) :: S) _ (psh_B r1 rg_wr hz (by omega) f1 s1) (by simp) hv (by rw [evs_u (by decide) (by decide)]; rfl)
    · have hlv : 0 ≤ lvC (-x) ∧ x < 0 := by
        rcases hx with q | q | q | q
        · omega
        · exact absurd q b3
        · exact absurd q b4
        · exact q
      unfold vs at hv
      rw [if_neg (by omega), if_neg (by rintro (q | q); exact b3 q; exact b4 q)] at hv
      cases S with
      | nil => exact absurd hv (by simp)
      | cons y S =>
        cases S with
        | nil => exact absurd hv (by simp)
        | cons w S =>
          rw [if_pos (by simp)] at hv
          have hz : A a 3 - 1 = ((w :: S).length : Int) := by rw [h3, List.length_cons]; omega
          have hz2 : A a 3 - 1 - 1 = (S.length : Int) := by rw [hz, List.length_cons]; omega
          rw [List.length_cons, List.length_cons] at hlS hroom
          obtain ⟨r1, f1, s1, e1⟩ := pop_B hR hF hS hz (by rw [List.length_cons]; omega)
          obtain ⟨r2, f2, s2, e2⟩ := pop_B r1 f1 s1 hz2 (by omega)
          have hxs : -1000 ≤ x := by rcases lvC_c rfl hlv.1 with e | e | e | e | e | e | e <;> omega
          rw [e1, UA_eq, UA_eq, e2, wr_of (x := -x) ⟨by omega, by omega⟩]
          refine ⟨ht, ⟨by omega, by omega⟩, ⟨by omega, by omega⟩, ⟨by omega, by omega⟩, c1, ?_⟩
          exact fin (k_joined w (-x) y :: S) _ (psh_B r2 rg_jo hz2 (by omega) f2 s2) (by simp) hv (by rw [evs_b (by have := hcm.2 (by omega); omega) (fun q => by have := ((hcm.2 (by omega)).2.2).mpr q; rcases this with z | z; exact b3 z; exact b4 z), both_jo hlv.1])
    · unfold vs at hv
      rw [if_pos (by omega)] at hv
      exact fin (x :: S) _ (psh_B hR hrx h3 hlS hF hS) (by simp) hv (by rw [evs_p (by rw [hcm.1 (by omega)]; omega), hcm.1 (by omega), if_pos b1])
    · unfold vs at hv
      rw [if_pos (by omega)] at hv
      rw [efc]
      exact fin (k_fct A0 k (x - 10000) :: S) _ (psh_B hR (by rw [← efc]; exact rg_fct hR) h3 hlS hF hS) (by simp) hv (by rw [evs_p (by rw [hcm.1 (by omega)]; omega), hcm.1 (by omega), if_neg b1])
theorem S102 {d : Nat} (hd : 2 ≤ d) {W : gW} (hW : HW W) {A : Nat → Int → Int} {P : Nat → Int → Nat} (hR : RG A) (hT : Stat W P) (hG : GL W) {x1 : Int} {a0 a2 : Nat} (rr : Rg x1) (hp : (OTx W P a0) ∧ (OKi W P A a2) ∧ (0 ≤ A a0 2 ∧ A a0 2 ≤ (gL W (a0 + 1) : Int)) ∧ (gL W (a0 + 2) = gL W (a0 + 1)) ∧ (vs (partK A W a0 x1) 0 = some 1 ∧ ∀ c ∈ partK A W a0 x1, cdOK c)) : ∃ (r : Int) (A' : Nat → Int → Int), xev xT d 102 [.ref (lo W a0), .int (iz x1), .ref (lo W a2)] (Wm W A P) (some (.int (iz r))) (Wm W A' P) ∧ Rg r ∧ RG A' ∧ (Fo a0 [a0 + 2] [3] A A' ∧ r = evv (k_fct A a2) ((partK A W a0 x1).map cm)) := by
  refine xev_g (i := 102) (as := [.ref (lo W a0), .int (iz x1), .ref (lo W a2)]) (σ := Wm W A P) (Q := fun r_ σ_ => ∃ (r : Int) (A' : Nat → Int → Int), r_ = (some (.int (iz r))) ∧ σ_ = Wm W A' P ∧ Rg r ∧ RG A' ∧ (Fo a0 [a0 + 2] [3] A A' ∧ r = evv (k_fct A a2) ((partK A W a0 x1).map cm))) (D := 1) hd (Nat.le_of_ble_eq_true rfl) (fun r_ σ_ he hq => ?_) (fun d hd => V102_0 hd hW hR hT hG rr ?_)
  · obtain ⟨r, A', rfl, rfl, hq⟩ := hq
    exact ⟨r, A', he, hq⟩

  obtain ⟨p1, p2, p3, p4, p5, p6⟩ := hp
  have p1' := p1
  obtain ⟨⟨k10, ka, kb⟩, ⟨q1, q2⟩, l1, l2⟩ := p1'
  have kk := p2.1
  have R0 : RG (UA A a0 3 0) := rg_UA hR (by decide)
  have F0 : Fo a0 [a0 + 2] [3] A (UA A a0 3 0) := Fo.rf.fld (by simp)
  by_cases c : x1 = 0
  · have e : partK A W a0 x1 = upL (A (a0 + 1)) (A a0 2).toNat 0 := if_pos c
    rw [e] at p5 p6 ⊢
    have := L102 (d := d) hd hW hT hG (A0 := A) (a := a0) (k := a2) (to := (A a0 2).toNat) p1 p2 p4 (by omega) (A a0 2).toNat 0 [] (UA A a0 3 0) (Nat.zero_add _) R0 F0 (by rw [UA_eq]; rfl) trivial (by simp; omega) p6 p5 (Q := fun r' s' => ∃ r_ A_1, r' = some (.int (iz r_)) ∧ s' = Wm W A_1 P ∧ Rg r_ ∧ RG A_1 ∧ Fo a0 [a0 + 2] [3] A A_1 ∧ r_ = evv (k_fct A a2) ((upL (A (a0 + 1)) (A a0 2).toNat 0).map cm)) (fun A' r' f' => ⟨_, A', rfl, rfl, rg_evv hR, r', f', rfl⟩)
    rw [show (((A a0 2).toNat : Nat) : Int) = A a0 2 by omega] at this
    exact ⟨fun _ => ⟨k10, fun _ => this, fun z => absurd c z⟩, fun z => absurd c z⟩
  · have e : partK A W a0 x1 = upL (A (a0 + 1)) (gL W (a0 + 1) - (A a0 2).toNat) (A a0 2).toNat := if_neg c
    rw [e] at p5 p6 ⊢
    have := L102 (d := d) hd hW hT hG (A0 := A) (a := a0) (k := a2) (to := gL W (a0 + 1)) p1 p2 p4 (Nat.le_refl _) (gL W (a0 + 1) - (A a0 2).toNat) (A a0 2).toNat [] (UA A a0 3 0) (by omega) R0 F0 (by rw [UA_eq]; rfl) trivial (by simp; omega) p6 p5 (Q := fun r' s' => ∃ r_ A_1, r' = some (.int (iz r_)) ∧ s' = Wm W A_1 P ∧ Rg r_ ∧ RG A_1 ∧ Fo a0 [a0 + 2] [3] A A_1 ∧ r_ = evv (k_fct A a2) ((upL (A (a0 + 1)) (gL W (a0 + 1) - (A a0 2).toNat) (A a0 2).toNat).map cm)) (fun A' r' f' => ⟨_, A', rfl, rfl, rg_evv hR, r', f', rfl⟩)
    rw [show (((A a0 2).toNat : Nat) : Int) = A a0 2 by omega] at this
    exact ⟨fun z => absurd z c, fun _ => ⟨k10, q1, ka, fun z => absurd z c, fun _ => this⟩⟩
