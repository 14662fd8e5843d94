def Sta (W : gW) (P : Nat → Int → Nat) (A : Nat → Int → Int) : Prop := HW W ∧ RG A ∧ Stat W P ∧ GL W ∧ RelA W P A
def Kp (W W' : gW) (A A' : Nat → Int → Int) : Prop := (lo W' 0 = lo W 0 ∧ lo W' 1000 = lo W 1000 ∧ lo W' 540 = lo W 540) ∧ (gK W' 540 = gK W 540 ∧ gL W' 540 = gL W 540) ∧ A' 540 = A 540
/-- a call answers an int, but for the one of the longs -/
def VIL (ix : Nat) (v : Value) : Prop := (¬ ix = 101 ∧ ∃ x : Int32, v = .int x) ∨ (ix = 101 ∧ ∃ w : Int64, v = .long w)
/-- one call on the object and on the model: one answer, and the relation stands -/
def Cll (ix im : Nat) (as : List Value) (W : gW) (P : Nat → Int → Nat) (A : Nat → Int → Int) : Prop := ∃ (v : Value) (W' : gW) (P' : Nat → Int → Nat) (A' A2 : Nat → Int → Int), VIL ix v ∧ xev xT 190 ix (.ref (lo W 0) :: as) (Wm W A P) (some v) (Wm W' A' P') ∧ xev xT 190 im (.ref (lo W' 1000) :: as) (Wm W' A' P') (some v) (Wm W' A2 P') ∧ Sta W' P' A2 ∧ Kp W W' A A2 ∧ Kp W W' A A' ∧ gsz W' ≤ gsz W + 20 ∧ gsl W' ≤ gsl W + 2000
section STP
variable {W : gW} {P P' : Nat → Int → Nat} {A A' M M' : Nat → Int → Int}
theorem eqS.rf {s : Int} : eqS M M s := ⟨rfl, rfl, rfl, fun _ _ _ => ⟨rfl, rfl⟩⟩
theorem eqB.rf {s : Int} : eqB M M s := ⟨rfl, rfl, rfl, fun _ _ _ => rfl⟩
theorem eqK.rf {s : Int} : eqK M M s := ⟨rfl, rfl, rfl, rfl, rfl, rfl, rfl, rfl, rfl⟩
theorem eqL.rf {s : Int} : eqL M M s := ⟨rfl, rfl, rfl, rfl, rfl, rfl, rfl, fun _ _ _ => ⟨rfl, rfl⟩⟩
theorem eqT.rf {s : Int} : eqT M M s := fun _ _ _ => ⟨rfl, fun _ _ _ => rfl⟩
theorem eqH.rf {s : Int} : eqH M M s := ⟨rfl, rfl, fun _ _ _ => rfl⟩
theorem SettsOK.sm (h : SettsOK M) (e : ∀ s : Int, 0 ≤ s → s < 4 → eqS M M' s) (e0 : M' 0 2 = M 0 2) : SettsOK M' := ⟨by rw [e0]; exact h.1, fun s s0 s1 => (h.2 s s0 (by omega)).same (e s s0 (by have := h.1; omega))⟩
theorem BoltsOK.sm (h : BoltsOK M) (e : ∀ b : Int, 0 ≤ b → b < 4 → eqB M M' b) (e0 : M' 0 8 = M 0 8) (e2 : M' 0 2 = M 0 2) : BoltsOK M' := ⟨by rw [e0]; exact h.1, fun s s0 s1 => (h.2 s s0 (by omega)).same (e s s0 (by have := h.1; omega)) (by omega)⟩
theorem KiltsOK.sm (h : KiltsOK M) (e : ∀ k : Int, 0 ≤ k → k < 8 → eqK M M' k ∧ eqL M M' k) (e0 : M' 0 13 = M 0 13) (e2 : M' 0 8 = M 0 8) : KiltsOK M' := ⟨by rw [e0]; exact h.1, fun s s0 s1 => by
  obtain ⟨q1, q2⟩ := h.2 s s0 (by omega)
  obtain ⟨z1, z2⟩ := e s s0 (by have := h.1; omega)
  exact ⟨q1.same z1 z2.1, q2.same q1 z1 z2 (by omega)⟩⟩
/-- the relation after a change of numbers: setts and texts stand as they were -/
theorem Rel.gen (h : Rel W P A M) (eP : ∀ c, ¬ c = 6 → ¬ c = 8 → ¬ (300 ≤ c ∧ c < 400) → P' c = P c) (eA : ∀ c, 100 ≤ c → c < 531 → ¬ (200 ≤ c ∧ c < 240) → ¬ (300 ≤ c ∧ c < 400) → A' c = A c) (eS : ∀ s : Int, 0 ≤ s → s < 4 → eqS M M' s) (eT : ∀ t : Int, 0 ≤ t → t < 6 → eqT M M' t) (e0 : M' 0 2 = M 0 2 ∧ M' 0 42 = M 0 42 ∧ M' 0 8 = M 0 8 ∧ M' 0 13 = M 0 13) (c1 : A' 0 10 = A 0 10 ∧ A' 0 11 = A 0 11 ∧ A' 0 12 = A 0 12) (c2 : RCn A' M') (c3 : TpR A' (M' 1))
    (cB : ∀ b : Int, 0 ≤ b → b < M 0 8 → RBo W P' A' M' b) (cK : ∀ k : Int, 0 ≤ k → k < M 0 13 → RKi W P' A' M' k) (cH : ∀ s : Int, 0 ≤ s → s < 4 → RSh W P' A' M' s) (cC : ∀ j : Nat, j < 8 → A' 14 j = M' 41 j) (oB : BoltsOK M') (oK : KiltsOK M') (oH : SheetsOK M') (oR : 0 ≤ M' 0 43 ∧ M' 0 43 < M' 0 42) : Rel W P' A' M' := by
  obtain ⟨oS0, oB0, oK0, oH0, oT0, oR0⟩ := h.ok
  have b2 := oS0.1
  obtain ⟨e2, e42, e8, e13⟩ := e0
  refine ⟨h.cto.same c1 ⟨eP _ (by decide) (by decide) (by decide), eP _ (by decide) (by decide) (by decide), eP _ (by decide) (by decide) (by decide), eP _ (by decide) (by decide) (by decide)⟩, c2, c3, fun s s0 s1 => ?_, fun b b0 b1 => cB b b0 (by omega), ?_, fun k k0 k1 => cK k k0 (by omega), fun t t0 t1 => ?_, cH, cC, ?_, ?_, ?_, ⟨oS0.sm eS e2, oB, oK, oH, by rw [e42]; exact oT0, oR⟩⟩
  · refine (h.se s0 (by omega)).same (fun c q1 q2 => ?_) (eS s s0 (by omega))
    rw [qS_d] at q1 q2
    exact ⟨rfl, rfl, eP c (by omega) (by omega) (by omega), eA c (by omega) (by omega) (by omega) (by omega)⟩
  · refine h.wb.same (fun c q1 q2 => ⟨rfl, rfl, eP c (by omega) (by omega) (by omega), eA c (by omega) (by omega) (by omega) (by omega)⟩) ?_ e2
    rw [eP 0 (by decide) (by decide) (by decide)]
  · refine (h.tx t0 (by omega)).same (fun c q1 q2 => ?_) ?_ (eT t t0 (by omega))
    · rw [qT_d] at q1 q2
      exact ⟨rfl, rfl, eP c (by omega) (by omega) (by omega), eA c (by omega) (by omega) (by omega) (by omega)⟩
    · rw [eP 19 (by decide) (by decide) (by decide)]
  · have := h.fr
    unfold RFr at this ⊢
    rw [e2, e42, e8, e13]
    exact this
  · exact h.st.same (fun c q1 q2 => eA c (by omega) (by omega) (by omega) (by omega))
  · have := h.mod
    unfold RMo at this ⊢
    rw [eP 1000 (by decide) (by decide) (by decide)]
    exact this
theorem Rel.boS (h : Rel W P A M) (eP : ∀ c, 200 ≤ c → c < 240 → P' c = P c) (eA : ∀ c, 200 ≤ c → c < 240 → A' c = A c) (eB : ∀ b : Int, 0 ≤ b → b < 4 → eqB M M' b) : ∀ b : Int, 0 ≤ b → b < M 0 8 → RBo W P' A' M' b := fun b b0 b1 => by
  have := h.ok.2.1.1
  refine (h.bo b0 b1).same (fun c q1 q2 => ?_) (eB b b0 (by omega))
  rw [qB_d] at q1 q2
  exact ⟨rfl, rfl, eP c (by omega) (by omega), eA c (by omega) (by omega)⟩
theorem Rel.kiS (h : Rel W P A M) (eP : ∀ c, 300 ≤ c → c < 400 → P' c = P c) (eA : ∀ c, 300 ≤ c → c < 400 → A' c = A c) (eK : ∀ k : Int, 0 ≤ k → k < 8 → eqK M M' k ∧ eqL M M' k) (e0 : M' 0 2 = M 0 2) (eS : eqS M M' 0) : ∀ k : Int, 0 ≤ k → k < M 0 13 → RKi W P' A' M' k := fun k b0 b1 => by
  have := h.ok.2.2.1.1
  obtain ⟨z1, z2⟩ := eK k b0 (by omega)
  refine (h.ki b0 b1).same (fun c q1 q2 => ?_) (h.ok.2.2.1.2 k b0 b1).1 z1 z2 (fun q => ⟨by omega, eS⟩)
  rw [qK_d] at q1 q2
  exact ⟨rfl, rfl, eP c (by omega) (by omega), eA c (by omega) (by omega)⟩
theorem Rel.shS (h : Rel W P A M) (eP : ∀ c, 21 ≤ c → c < 29 → P' c = P c) (eA : ∀ c, 21 ≤ c → c < 29 → A' c = A c) (eH : ∀ s : Int, 0 ≤ s → s < 4 → eqH M M' s) : ∀ s : Int, 0 ≤ s → s < 4 → RSh W P' A' M' s := fun s b0 b1 => by
  have := (h.ok.2.2.2.1 s b0 (by omega)).2
  refine (h.sh b0 b1).same (fun c q1 q2 => ?_) this.2 (eH s b0 b1)
  rw [qH_d] at q1 q2
  exact ⟨rfl, rfl, eP c (by omega) (by omega), eA c (by omega) (by omega)⟩
theorem Rel.cong (h : Rel W P A M) (e : ∀ c, c < 1000 → A' c = A c) : Rel W P A' M := by
  obtain ⟨oS0, oB0, oK0, oH0, oT0, oR0⟩ := h.ok
  refine h.gen (fun _ _ _ _ => rfl) (fun c _ _ _ _ => e c (by omega)) (fun _ _ _ => eqS.rf) (fun _ _ _ => eqT.rf) ⟨rfl, rfl, rfl, rfl⟩ (by rw [e 0 (by decide)]; exact ⟨rfl, rfl, rfl⟩) ?_ (h.tp.same (e 1 (by decide)) (e 2 (by decide))) (h.boS (fun _ _ _ => rfl) (fun c _ _ => e c (by omega)) (fun _ _ _ => eqB.rf)) (h.kiS (fun _ _ _ => rfl) (fun c _ _ => e c (by omega)) (fun _ _ _ => ⟨eqK.rf, eqL.rf⟩) rfl eqS.rf) (h.shS (fun _ _ _ => rfl) (fun c _ _ => e c (by omega)) (fun _ _ _ => eqH.rf)) ?_ oB0 oK0 oH0 oR0
  · unfold RCn; rw [e 0 (by decide), e 1 (by decide)]; exact h.cn
  · rw [e 14 (by decide)]; exact h.cu
theorem Sta.ml (h : Sta W P A) : MLaw (lo W 1000) (PhW W A P) := ml_W h.1 h.2.2.1.1 h.2.2.2.2.mod
theorem stp_mk {ix im : Nat} {as : List Value} {v : Value} {W' : gW} (hx : xev xT 190 ix (.ref (lo W 0) :: as) (Wm W A P) (some v) (Wm W' A' P')) (hm : xev xT 190 im (.ref (lo W' 1000) :: as) (PhW W' A' P' (mI (mo A'))) (some v) (PhW W' A' P' (mI M'))) (h1 : HW W') (h2 : RG A') (h3 : RG M') (h4 : Stat W' P') (h5 : GL W') (h6 : Rel W' P' A' M') (h7 : Kp W W' A A') (h8 : gsz W' ≤ gsz W + 20 ∧ gsl W' ≤ gsl W + 2000) (hv : VIL ix v := by first | exact Or.inl ⟨by decide, _, rfl⟩ | exact Or.inr ⟨rfl, _, rfl⟩) : Cll ix im as W P A := by
  rw [ph_mo, ph_eq] at hm
  refine ⟨v, W', P', A', pA A' M', hv, hx, hm, ⟨h1, rg_pA h2 h3, h4, h5, ?_⟩, ⟨h7.1, h7.2.1, by rw [pA_l (by decide)]; exact h7.2.2⟩, h7, h8⟩
  show Rel W' P' (pA A' M') (mo (pA A' M'))
  rw [mo_pA]
  exact h6.cong (fun c hc => pA_l hc)
theorem Kp.rf : Kp W W A A := ⟨⟨rfl, rfl, rfl⟩, ⟨rfl, rfl⟩, rfl⟩
theorem stp_ro {ix im : Nat} {as : List Value} {v : Value} (h : Sta W P A) (hx : xev xT 190 ix (.ref (lo W 0) :: as) (Wm W A P) (some v) (Wm W A P)) (hm : xev xT 190 im (.ref (lo W 1000) :: as) (PhW W A P (mI (mo A))) (some v) (PhW W A P (mI (mo A)))) (hv : VIL ix v := by first | exact Or.inl ⟨by decide, _, rfl⟩ | exact Or.inr ⟨rfl, _, rfl⟩) : Cll ix im as W P A := stp_mk hx hm h.1 h.2.1 (rg_mo h.2.1) h.2.2.1 h.2.2.2.1 h.2.2.2.2 Kp.rf ⟨Nat.le_add_right _ _, Nat.le_add_right _ _⟩ hv
end STP
theorem cl_2 {W : gW} {P : Nat → Int → Nat} {A : Nat → Int → Int} (h : Sta W P A) {x1 x2 : Int} (rr : Rg x1 ∧ Rg x2) : Cll 45 134 [.int (iz x1), .int (iz x2)] W P A := stp_ro h (S45 (by decide) h.1 h.2.1 h.2.2.1 h.2.2.2.1 rr h.2.2.2.2) (S134 (by decide) h.ml (rg_mo h.2.1) rr h.2.2.2.2.ok.1.1)
theorem cl_3 {W : gW} {P : Nat → Int → Nat} {A : Nat → Int → Int} (h : Sta W P A) {x1 x2 x3 : Int} (rr : Rg x1 ∧ Rg x2 ∧ Rg x3) : Cll 47 136 [.int (iz x1), .int (iz x2), .int (iz x3)] W P A := stp_ro h (S47 (by decide) h.1 h.2.1 h.2.2.1 h.2.2.2.1 rr h.2.2.2.2) (S136 (by decide) h.ml (rg_mo h.2.1) rr h.2.2.2.2.ok.1)
theorem cl_4 {W : gW} {P : Nat → Int → Nat} {A : Nat → Int → Int} (h : Sta W P A) {x1 x2 : Int} (rr : Rg x1 ∧ Rg x2) : Cll 49 138 [.int (iz x1), .int (iz x2)] W P A := stp_ro h (S49 (by decide) h.1 h.2.1 h.2.2.1 h.2.2.2.1 rr h.2.2.2.2) (S138 (by decide) h.ml (rg_mo h.2.1) rr h.2.2.2.2.ok.1)
theorem cl_5 {W : gW} {P : Nat → Int → Nat} {A : Nat → Int → Int} (h : Sta W P A) {x1 x2 x3 : Int} (rr : Rg x1 ∧ Rg x2 ∧ Rg x3) : Cll 51 140 [.int (iz x1), .int (iz x2), .int (iz x3)] W P A := stp_ro h (S51 (by decide) h.1 h.2.1 h.2.2.1 h.2.2.2.1 rr h.2.2.2.2) (S140 (by decide) h.ml (rg_mo h.2.1) rr h.2.2.2.2.ok.1)
theorem cl_9 {W : gW} {P : Nat → Int → Nat} {A : Nat → Int → Int} (h : Sta W P A) {x1 x2 : Int} (rr : Rg x1 ∧ Rg x2) : Cll 65 146 [.int (iz x1), .int (iz x2)] W P A := stp_ro h (S65 (by decide) h.1 h.2.1 h.2.2.1 h.2.2.2.1 rr h.2.2.2.2) (S146 (by decide) h.ml (rg_mo h.2.1) rr h.2.2.2.2.ok.2.2.1.1)
theorem cl_11 {W : gW} {P : Nat → Int → Nat} {A : Nat → Int → Int} (h : Sta W P A) {x1 x2 : Int} (rr : Rg x1 ∧ Rg x2) : Cll 86 159 [.int (iz x1), .int (iz x2)] W P A := stp_ro h (S86 (by decide) h.1 h.2.1 h.2.2.1 h.2.2.2.1 rr h.2.2.2.2) (S159 (by decide) h.ml (rg_mo h.2.1) rr h.2.2.2.2.ok.2.2.1)
theorem cl_12 {W : gW} {P : Nat → Int → Nat} {A : Nat → Int → Int} (h : Sta W P A) {x1 x2 x3 : Int} (rr : Rg x1 ∧ Rg x2 ∧ Rg x3) : Cll 87 161 [.int (iz x1), .int (iz x2), .int (iz x3)] W P A := stp_ro h (S87 (by decide) h.1 h.2.1 h.2.2.1 h.2.2.2.1 rr h.2.2.2.2) (S161 (by decide) h.ml (rg_mo h.2.1) rr h.2.2.2.2.ok.2.2.1)
theorem cl_13 {W : gW} {P : Nat → Int → Nat} {A : Nat → Int → Int} (h : Sta W P A) {x1 x2 x3 : Int} (rr : Rg x1 ∧ Rg x2 ∧ Rg x3) : Cll 92 164 [.int (iz x1), .int (iz x2), .int (iz x3)] W P A := stp_ro h (S92 (by decide) h.1 h.2.1 h.2.2.1 h.2.2.2.1 rr h.2.2.2.2) (S164 (by decide) h.ml (rg_mo h.2.1) rr ⟨h.2.2.2.2.ok.1, h.2.2.2.2.ok.2.1, h.2.2.2.2.ok.2.2.1⟩)
theorem cl_14 {W : gW} {P : Nat → Int → Nat} {A : Nat → Int → Int} (h : Sta W P A) {x1 x2 : Int} (rr : Rg x1 ∧ Rg x2) : Cll 95 166 [.int (iz x1), .int (iz x2)] W P A := stp_ro h (S95 (by decide) h.1 h.2.1 h.2.2.1 h.2.2.2.1 rr h.2.2.2.2) (S166 (by decide) h.ml (rg_mo h.2.1) rr h.2.2.2.2.ok.2.2.1)
theorem cl_22 {W : gW} {P : Nat → Int → Nat} {A : Nat → Int → Int} (h : Sta W P A) {x1 : Int} (rr : Rg x1) : Cll 115 194 [.int (iz x1)] W P A := stp_ro h (S115 (by decide) h.1 h.2.1 h.2.2.1 h.2.2.2.1 rr h.2.2.2.2) (S194 (by decide) h.ml (rg_mo h.2.1) rr)
theorem cl_23 {W : gW} {P : Nat → Int → Nat} {A : Nat → Int → Int} (h : Sta W P A) {x1 : Int} (rr : Rg x1) : Cll 116 195 [.int (iz x1)] W P A := stp_ro h (S116 (by decide) h.1 h.2.1 h.2.2.1 h.2.2.2.1 rr h.2.2.2.2) (S195 (by decide) h.ml (rg_mo h.2.1) rr h.2.2.2.2.ok.2.2.1.1)
theorem cl_27 {W : gW} {P : Nat → Int → Nat} {A : Nat → Int → Int} (h : Sta W P A) {x1 x2 : Int} (rr : Rg x1 ∧ Rg x2) : Cll 125 200 [.int (iz x1), .int (iz x2)] W P A := stp_ro h (S125 (by decide) h.1 h.2.1 h.2.2.1 h.2.2.2.1 rr h.2.2.2.2) (S200 (by decide) h.ml (rg_mo h.2.1) rr h.2.2.2.2.ok.2.2.1.1)
