abbrev StyA (A : Nat → Int → Int) : Prop := A 530 0 = -1 ∧ A 530 1 = 0 ∧ A 530 2 = 0 ∧ A 530 3 = 1 ∧ A 530 4 = 2 ∧ A 530 5 = 3
abbrev kAb (s ab : Int) : Prop := 0 ≤ s ∧ (s = ab ∨ ((s = 1 ∨ s = 2) ∧ ab = 0) ∨ (s = 3 ∧ (ab = 1 ∨ ab = 0)) ∨ (s = 4 ∧ (ab = 2 ∨ ab = 0)) ∨ (s = 5 ∧ (ab = 3 ∨ ab = 1 ∨ ab = 0)))
theorem V63_0 {d : Nat} (hd : 0 ≤ d) {Q : Option Value → xM → Prop} {W : gW} (hW : HW W) {A : Nat → Int → Int} {P : Nat → Int → Nat} (hR : RG A) (hT : Stat W P) (hG : GL W) {x0 x1 : Int} (rr : Rg x0 ∧ Rg x1) (h : wpE (xT 63) (xev xT d) Q (4, [(1, .int (iz x1)), (2, .int (iz x0)), (3, .int (iz 0))], [], Wm W A P)) : wpE (xT 63) (xev xT d) Q (0, [(0, .int (iz x0)), (1, .int (iz x1))], [], Wm W A P) := by
  refine p_ild (cc3 c63_0) rfl ?_
  refine p_ist (ls' := [(2, .int (iz x0)), (0, .int (iz x0)), (1, .int (iz x1))]) (cc3 c63_1) (by decide) rfl ?_
  refine i_push (n := 0) (cc3 c63_2) zl_0 ?_
  refine p_ist (ls' := [(3, .int (iz 0)), (2, .int (iz x0)), (0, .int (iz x0)), (1, .int (iz x1))]) (cc3 c63_3) (by decide) rfl ?_
  exact p_lc (ls' := [(1, .int (iz x1)), (2, .int (iz x0)), (3, .int (iz 0))]) c63_4 rfl rfl h
theorem V63_4 {d : Nat} (hd : 0 ≤ d) {Q : Option Value → xM → Prop} {W : gW} (hW : HW W) {A : Nat → Int → Int} {P : Nat → Int → Nat} (hR : RG A) (hT : Stat W P) (hG : GL W) {x1 x2 x3 : Int} (rr : Rg x1 ∧ Rg x2 ∧ Rg x3) (h : (((6 ≤ x3) → Q (some (.int (iz 0))) (Wm W A P)) ∧ (¬ (6 ≤ x3) → (((x2 < 0) → Q (some (.int (iz 0))) (Wm W A P)) ∧ (¬ (x2 < 0) → (((6 ≤ x2) → Q (some (.int (iz 0))) (Wm W A P)) ∧ (¬ (6 ≤ x2) → (((x2 = x1) → Q (some (.int (iz 1))) (Wm W A P)) ∧ (¬ (x2 = x1) → (gK W 530 = 40) ∧ (0 ≤ x2 ∧ x2 < gL W 530 ∧ x2 ≤ 2147483647) ∧ (Rg (x3 + 1)) ∧ wpE (xT 63) (xev xT d) Q (4, [(1, .int (iz x1)), (2, .int (iz (A 530 x2))), (3, .int (iz (x3 + 1)))], [], Wm W A P)))))))))) : wpE (xT 63) (xev xT d) Q (4, [(1, .int (iz x1)), (2, .int (iz x2)), (3, .int (iz x3))], [], Wm W A P) := by
  refine p_ild (cct c63_4 rfl) rfl ?_
  refine i_push (n := 6) (cc3 c63_5) zl_6 ?_
  refine i_icmp (c' := 6 ≤ x3) (cc3 c63_7) (iz_le (by decide : Rg (6 : Int)) rr.2.2) (fun c => ?_) (fun c => ?_)
  · have h := h.1 c
    refine p_lc (ls' := []) c63_39 rfl rfl ?_
    refine i_push (n := 0) (cct c63_39 rfl) zl_0 ?_
    exact i_ri (cc3 c63_40) (by decide) h
  · have h := h.2 c
    refine p_ild (cc3 c63_10) rfl ?_
    refine i_if (c' := x2 < 0) (cc3 c63_11) (c_lt0 rr.2.1) (fun c => ?_) (fun c => ?_)
    · have h := h.1 c
      refine p_lc (ls' := []) c63_39 rfl rfl ?_
      refine i_push (n := 0) (cct c63_39 rfl) zl_0 ?_
      exact i_ri (cc3 c63_40) (by decide) h
    · have h := h.2 c
      refine p_ild (cc3 c63_14) rfl ?_
      refine i_push (n := 6) (cc3 c63_15) zl_6 ?_
      refine i_icmp (c' := 6 ≤ x2) (cc3 c63_17) (iz_le (by decide : Rg (6 : Int)) rr.2.1) (fun c => ?_) (fun c => ?_)
      · have h := h.1 c
        refine p_lc (ls' := []) c63_39 rfl rfl ?_
        refine i_push (n := 0) (cct c63_39 rfl) zl_0 ?_
        exact i_ri (cc3 c63_40) (by decide) h
      · have h := h.2 c
        refine p_ild (cc3 c63_20) rfl ?_
        refine p_ild (cc3 c63_21) rfl ?_
        refine i_icmp (c' := x2 = x1) (cc3 c63_22) (iz_inj rr.2.1 rr.1) (fun c => ?_) (fun c => ?_)
        · have h := h.1 c
          refine i_push (n := 1) (cc3 c63_25) zl_1 ?_
          exact i_ri (cc3 c63_26) (by decide) h
        · have h := h.2 c
          refine w_gref hW (cc3 c63_27) (c := 530) (gz_s hG) ?_
          refine p_ild (cc3 c63_30) rfl ?_
          obtain ⟨g1, h⟩ := h
          obtain ⟨g2, h⟩ := h
          refine w_aldi hW (v := A 530 x2) (cc3 c63_31) g1 g2 rfl ?_
          refine p_ist (ls' := [(2, .int (iz (A 530 x2))), (1, .int (iz x1)), (3, .int (iz x3))]) (cc3 c63_32) (by decide) rfl ?_
          obtain ⟨g3, h⟩ := h
          refine (fun _ : Rg (x3 + 1) => i_iinc (n := 1) (y := x3 + 1) (ls' := [(3, .int (iz (x3 + 1))), (2, .int (iz (A 530 x2))), (1, .int (iz x1))]) (cc3 c63_33) (by decide) rfl zl_1 (by first | rfl | omega) rfl ?_) g3
          refine p_goto (cc3 c63_36) ?_
          exact p_lc (ls' := [(1, .int (iz x1)), (2, .int (iz (A 530 x2))), (3, .int (iz (x3 + 1)))]) c63_4 rfl rfl h

theorem L63 {d : Nat} (hd : 0 ≤ d) {Q : Option Value → xM → Prop} {W : gW} (hW : HW W) {A : Nat → Int → Int} {P : Nat → Int → Nat} (hR : RG A) (hT : Stat W P) (hG : GL W) (hs : StyA A) {ab : Int} (rab : Rg ab) :
    ∀ (r : Nat) (s i : Int), (s = -1 ∨ (s = 0 ∧ 1 ≤ r) ∨ ((s = 1 ∨ s = 2) ∧ 2 ≤ r) ∨ ((s = 3 ∨ s = 4) ∧ 3 ≤ r) ∨ (s = 5 ∧ 4 ≤ r)) → 0 ≤ i → i + r ≤ 6 → Q (some (.int (iz (bI (kAb s ab))))) (Wm W A P) → wpE (xT 63) (xev xT d) Q (4, [(1, .int (iz ab)), (2, .int (iz s)), (3, .int (iz i))], [], Wm W A P) := by
  have g1 : gK W 530 = 40 := hG.2.2.1
  have g2 : gL W 530 = 6 := hG.2.2.2
  intro r
  induction r with
  | zero =>
    intro s i h h0 hi hQ
    have e : s = -1 := by omega
    rw [bI_f (by omega)] at hQ
    exact V63_4 hd hW hR hT hG ⟨rab, ⟨by omega, by omega⟩, ⟨by omega, by omega⟩⟩ ⟨fun _ => hQ, fun _ => ⟨fun _ => hQ, fun z => absurd (by omega) z⟩⟩
  | succ r ih =>
    intro s i h h0 hi hQ
    refine V63_4 hd hW hR hT hG ⟨rab, ⟨by omega, by omega⟩, ⟨by omega, by omega⟩⟩ ⟨fun z => absurd z (by omega), fun _ => ⟨fun z => ?_, fun z => ⟨fun q => absurd q (by omega), fun _ => ⟨fun q => ?_, fun q => ⟨g1, ⟨by omega, by omega, by omega⟩, ⟨by omega, by omega⟩, ?_⟩⟩⟩⟩⟩
    · rw [bI_f (by omega)] at hQ; exact hQ
    · rw [bI_t (by omega)] at hQ; exact hQ
    · obtain ⟨s0, s1, s2, s3, s4, s5⟩ := hs
      have key : ∀ s', A 530 s = s' → (s' = -1 ∨ (s' = 0 ∧ 1 ≤ r) ∨ ((s' = 1 ∨ s' = 2) ∧ 2 ≤ r) ∨ ((s' = 3 ∨ s' = 4) ∧ 3 ≤ r) ∨ (s' = 5 ∧ 4 ≤ r)) → bI (kAb s ab) = bI (kAb s' ab) → wpE (xT 63) (xev xT d) Q (4, [(1, .int (iz ab)), (2, .int (iz (A 530 s))), (3, .int (iz (i + 1)))], [], Wm W A P) := fun s' e hs' hb => by
        rw [e]
        rw [hb] at hQ
        exact ih s' (i + 1) hs' (by omega) (by omega) hQ
      have biff : ∀ {a b : Prop} [Decidable a] [Decidable b], (a ↔ b) → bI a = bI b := fun {a b} _ _ h => by
        by_cases c : a
        · rw [bI_t c, bI_t (h.mp c)]
        · rw [bI_f c, bI_f (fun z => c (h.mpr z))]
      rcases (by omega : s = 0 ∨ s = 1 ∨ s = 2 ∨ s = 3 ∨ s = 4 ∨ s = 5) with e | e | e | e | e | e <;> subst e
      · exact key (-1) s0 (by omega) (biff (by constructor <;> intro _ <;> omega))
      · exact key 0 s1 (by omega) (biff (by constructor <;> intro _ <;> omega))
      · exact key 0 s2 (by omega) (biff (by constructor <;> intro _ <;> omega))
      · exact key 1 s3 (by omega) (biff (by constructor <;> intro _ <;> omega))
      · exact key 2 s4 (by omega) (biff (by constructor <;> intro _ <;> omega))
      · exact key 3 s5 (by omega) (biff (by constructor <;> intro _ <;> omega))
theorem S63 {d : Nat} (hd : 1 ≤ d) {W : gW} (hW : HW W) {A : Nat → Int → Int} {P : Nat → Int → Nat} (hR : RG A) (hT : Stat W P) (hG : GL W) {x0 x1 : Int} (rr : Rg x0 ∧ Rg x1) (hp : (StyA A) ∧ (0 ≤ x0 ∧ x0 ≤ 5)) : xev xT d 63 [.int (iz x0), .int (iz x1)] (Wm W A P) (some (.int (iz (bI (kAb x0 x1))))) (Wm W A P) := by
  refine xev_i (D := 0) hd (Nat.le_of_ble_eq_true rfl) (fun d hd => V63_0 hd hW hR hT hG rr ?_)

  exact L63 (Q := fun r' s' => r' = some (.int (iz (bI (kAb x0 x1)))) ∧ s' = Wm W A P) hd hW hR hT hG hp.1 rr.2 6 x0 0 (by omega) (Int.le_refl 0) (by decide) ⟨rfl, rfl⟩
