def m_rank (w : Int) : Int := if w = -1 then 1 else if w = -2 then 2 else if w = -3 then 3 else if w = -4 ∨ w = -5 then 4 else if w = -6 ∨ w = -7 then 5 else if w = -8 then 6 else if w = -9 then 7 else 0
theorem m_rank_b {w : Int} : 0 ≤ m_rank w ∧ m_rank w ≤ 7 := by unfold m_rank; (repeat' split) <;> omega
def m_put (A : Nat → Int → Int) (w : Int) : Nat → Int → Int := UA (UA A 34 (160 * A 0 55 + A 33 (A 0 55)) w) 33 (A 0 55) (A 33 (A 0 55) + 1)
def m_hold (A : Nat → Int → Int) (w : Int) : Nat → Int → Int := if w = -3 ∨ w = -9 ∨ w = -10 then UA (UA (UA A 35 (A 0 52) w) 0 52 (A 0 52 + 1)) 0 54 (A 0 54 + 1) else UA (UA A 35 (A 0 52) w) 0 52 (A 0 52 + 1)
theorem rg_put {A : Nat → Int → Int} {w : Int} (hR : RG A) (hw : Rg w) (hp : (0 ≤ A 0 55 ∧ A 0 55 < 12) ∧ (0 ≤ A 33 (A 0 55) ∧ A 33 (A 0 55) < 160)) : RG (m_put A w) := rg_UA (rg_UA hR hw) (by omega)
theorem rg_hold {A : Nat → Int → Int} {w : Int} (hR : RG A) (hw : Rg w) (hp : (0 ≤ A 0 52 ∧ A 0 52 < 161) ∧ (0 ≤ A 0 54 ∧ A 0 54 ≤ 5)) : RG (m_hold A w) := by
  unfold m_hold
  split
  · exact rg_UA (rg_UA (rg_UA hR hw) (by omega)) (by omega)
  · exact rg_UA (rg_UA hR hw) (by omega)
/-- the sign that stands there: its operation, or 0 -/
def m_signOf (A : Nat → Int → Int) : Int := if A 0 47 = 3 ∧ A 0 48 = 2 then -1 else if A 0 47 = 3 ∧ A 0 48 = 3 then -2 else if A 0 47 = 4 ∧ A 0 48 = 60 then -4 else if A 0 47 = 4 ∧ A 0 48 = 61 then -5 else if A 0 47 = 4 ∧ A 0 48 = 43 then -6 else if A 0 47 = 4 ∧ A 0 48 = 45 then -7 else if A 0 47 = 4 ∧ A 0 48 = 42 then -8 else 0
abbrev m_ahead (A : Nat → Int → Int) (x : Int) : Prop := A 0 47 = 1 ∨ A 0 47 = 2 ∨ (¬ A 0 54 = 5 ∧ ((A 0 47 = 3 ∧ A 0 48 = 4 ∧ ¬ x = 0) ∨ (A 0 47 = 4 ∧ (A 0 48 = 40 ∨ A 0 48 = 45))))
theorem V184_0 {d : Nat} (hd : 0 ≤ d) {Q : Option Value → xM → Prop} {m : Nat} {Φ : (Nat → Nat → Int32) → xM} (hΦ : MLaw m Φ) {A : Nat → Int → Int} (hR : RG A) {x1 : Int} (rr : Rg x1) (h : (((x1 = (-1)) → Q (some (.int (iz 1))) (Φ (mI A))) ∧ (¬ (x1 = (-1)) → (((x1 = (-2)) → Q (some (.int (iz 2))) (Φ (mI A))) ∧ (¬ (x1 = (-2)) → (((x1 = (-3)) → Q (some (.int (iz 3))) (Φ (mI A))) ∧ (¬ (x1 = (-3)) → (((x1 = (-4)) → Q (some (.int (iz 4))) (Φ (mI A))) ∧ (¬ (x1 = (-4)) → (((x1 = (-5)) → Q (some (.int (iz 4))) (Φ (mI A))) ∧ (¬ (x1 = (-5)) → (((x1 = (-6)) → Q (some (.int (iz 5))) (Φ (mI A))) ∧ (¬ (x1 = (-6)) → (((x1 = (-7)) → Q (some (.int (iz 5))) (Φ (mI A))) ∧ (¬ (x1 = (-7)) → (((x1 = (-8)) → Q (some (.int (iz 6))) (Φ (mI A))) ∧ (¬ (x1 = (-8)) → (((x1 = (-9)) → Q (some (.int (iz 7))) (Φ (mI A))) ∧ (¬ (x1 = (-9)) → Q (some (.int (iz 0))) (Φ (mI A))))))))))))))))))))) : wpE (xT 184) (xev xT d) Q (0, [(0, .ref m), (1, .int (iz x1))], [], Φ (mI A)) := by
  refine p_ild (cc3 c184_0) rfl ?_
  refine i_push (n := (-1)) (cc3 c184_1) zl_m1 ?_
  refine i_icmp (c' := x1 = (-1)) (cc3 c184_2) (iz_inj rr (by decide)) (fun c => ?_) (fun c => ?_)
  · have h := h.1 c
    refine i_push (n := 1) (cc3 c184_5) zl_1 ?_
    refine p_goto (cc3 c184_6) ?_
    refine p_lc (ls' := []) c184_84 rfl rfl ?_
    exact p_ri (cct c184_84 rfl) trivial h
  · have h := h.2 c
    refine p_ild (cc3 c184_9) rfl ?_
    refine i_push (n := (-2)) (cc3 c184_10) zl_m2 ?_
    refine i_icmp (c' := x1 = (-2)) (cc3 c184_12) (iz_inj rr (by decide)) (fun c => ?_) (fun c => ?_)
    · have h := h.1 c
      refine i_push (n := 2) (cc3 c184_15) zl_2 ?_
      refine p_goto (cc3 c184_16) ?_
      refine p_lc (ls' := []) c184_84 rfl rfl ?_
      exact p_ri (cct c184_84 rfl) trivial h
    · have h := h.2 c
      refine p_ild (cc3 c184_19) rfl ?_
      refine i_push (n := (-3)) (cc3 c184_20) zl_m3 ?_
      refine i_icmp (c' := x1 = (-3)) (cc3 c184_22) (iz_inj rr (by decide)) (fun c => ?_) (fun c => ?_)
      · have h := h.1 c
        refine i_push (n := 3) (cc3 c184_25) zl_3 ?_
        refine p_goto (cc3 c184_26) ?_
        refine p_lc (ls' := []) c184_84 rfl rfl ?_
        exact p_ri (cct c184_84 rfl) trivial h
      · have h := h.2 c
        refine p_ild (cc3 c184_29) rfl ?_
        refine i_push (n := (-4)) (cc3 c184_30) zl_m4 ?_
        refine i_icmp (c' := x1 = (-4)) (cc3 c184_32) (iz_inj rr (by decide)) (fun c => ?_) (fun c => ?_)
        · have h := h.1 c
          refine p_lc (ls' := []) c184_41 rfl rfl ?_
          refine i_push (n := 4) (cct c184_41 rfl) zl_4 ?_
          refine p_goto (cc3 c184_42) ?_
          exact p_ri (cct c184_84 rfl) trivial h
        · have h := h.2 c
          refine p_ild (cc3 c184_35) rfl ?_
          refine i_push (n := (-5)) (cc3 c184_36) zl_m5 ?_
          refine i_icmp (c' := x1 = (-5)) (cc3 c184_38) (iz_inj rr (by decide)) (fun c => ?_) (fun c => ?_)
          · have h := h.1 c
            refine p_lc (ls' := []) c184_41 rfl rfl ?_
            refine i_push (n := 4) (cct c184_41 rfl) zl_4 ?_
            refine p_goto (cc3 c184_42) ?_
            exact p_ri (cct c184_84 rfl) trivial h
          · have h := h.2 c
            refine p_ild (cc3 c184_45) rfl ?_
            refine i_push (n := (-6)) (cc3 c184_46) zl_m6 ?_
            refine i_icmp (c' := x1 = (-6)) (cc3 c184_48) (iz_inj rr (by decide)) (fun c => ?_) (fun c => ?_)
            · have h := h.1 c
              refine p_lc (ls' := []) c184_57 rfl rfl ?_
              refine i_push (n := 5) (cct c184_57 rfl) zl_5 ?_
              refine p_goto (cc3 c184_58) ?_
              exact p_ri (cct c184_84 rfl) trivial h
            · have h := h.2 c
              refine p_ild (cc3 c184_51) rfl ?_
              refine i_push (n := (-7)) (cc3 c184_52) zl_m7 ?_
              refine i_icmp (c' := x1 = (-7)) (cc3 c184_54) (iz_inj rr (by decide)) (fun c => ?_) (fun c => ?_)
              · have h := h.1 c
                refine p_lc (ls' := []) c184_57 rfl rfl ?_
                refine i_push (n := 5) (cct c184_57 rfl) zl_5 ?_
                refine p_goto (cc3 c184_58) ?_
                exact p_ri (cct c184_84 rfl) trivial h
              · have h := h.2 c
                refine p_ild (cc3 c184_61) rfl ?_
                refine i_push (n := (-8)) (cc3 c184_62) zl_m8 ?_
                refine i_icmp (c' := x1 = (-8)) (cc3 c184_64) (iz_inj rr (by decide)) (fun c => ?_) (fun c => ?_)
                · have h := h.1 c
                  refine i_push (n := 6) (cc3 c184_67) zl_6 ?_
                  refine p_goto (cc3 c184_69) ?_
                  refine p_lc (ls' := []) c184_84 rfl rfl ?_
                  exact p_ri (cct c184_84 rfl) trivial h
                · have h := h.2 c
                  refine p_ild (cc3 c184_72) rfl ?_
                  refine i_push (n := (-9)) (cc3 c184_73) zl_m9 ?_
                  refine i_icmp (c' := x1 = (-9)) (cc3 c184_75) (iz_inj rr (by decide)) (fun c => ?_) (fun c => ?_)
                  · have h := h.1 c
                    refine i_push (n := 7) (cc3 c184_78) zl_7 ?_
                    refine p_goto (cc3 c184_80) ?_
                    refine p_lc (ls' := []) c184_84 rfl rfl ?_
                    exact p_ri (cct c184_84 rfl) trivial h
                  · have h := h.2 c
                    refine i_push (n := 0) (cc3 c184_83) zl_0 ?_
                    refine p_lc (ls' := []) c184_84 rfl rfl ?_
                    exact p_ri (cct c184_84 rfl) trivial h
theorem S184 {d : Nat} (hd : 1 ≤ d) {m : Nat} {Φ : (Nat → Nat → Int32) → xM} (hΦ : MLaw m Φ) {A : Nat → Int → Int} (hR : RG A) {x1 : Int} (rr : Rg x1) : xev xT d 184 [.ref m, .int (iz x1)] (Φ (mI A)) (some (.int (iz (m_rank x1)))) (Φ (mI A)) := by
  refine xev_i (D := 0) hd (Nat.le_of_ble_eq_true rfl) (fun d hd => V184_0 hd hΦ hR rr ?_)
  repeat' (first | refine And.intro ?_ ?_ | intro _)
  all_goals (first | assumption | rfl | omega | (refine congrArg (fun z => some (Value.int (iz z))) ?_; first | omega | exact (bI_f (by omega)).symm | exact (bI_t (by omega)).symm | exact bI_i (by omega)) | (refine congrArg (fun z => some (Value.int (iz z))) ?_; (try unfold m_rank); (repeat' split) <;> first | rfl | omega | (exfalso; omega)))
theorem V182_0 {d : Nat} (hd : 0 ≤ d) {Q : Option Value → xM → Prop} {m : Nat} {Φ : (Nat → Nat → Int32) → xM} (hΦ : MLaw m Φ) {A : Nat → Int → Int} (hR : RG A) {x1 : Int} (rr : Rg x1) (h : (Rg (160 * (A 0 55))) ∧ (0 ≤ (A 0 55) ∧ (A 0 55) < 12) ∧ (Rg ((160 * (A 0 55)) + (A 33 (A 0 55)))) ∧ (0 ≤ ((160 * (A 0 55)) + (A 33 (A 0 55))) ∧ ((160 * (A 0 55)) + (A 33 (A 0 55))) < 1920) ∧ (Rg ((A 33 (A 0 55)) + 1)) ∧ Q none (Φ (mI (UA (UA A 34 ((160 * (A 0 55)) + (A 33 (A 0 55))) x1) 33 (A 0 55) ((A 33 (A 0 55)) + 1))))) : wpE (xT 182) (xev xT d) Q (0, [(0, .ref m), (1, .int (iz x1))], [], Φ (mI A)) := by
  refine p_ald (cc3 c182_0) rfl ?_
  refine pm_getp hΦ (cc3 c182_1) (c := 34) rfl (by decide) ?_
  refine i_push (n := 160) (cc3 c182_4) zl_160 ?_
  refine p_ald (cc3 c182_7) rfl ?_
  refine n_geti hΦ (v := A 0 55) (cc3 c182_8) (ji := 55) rfl rfl ?_
  obtain ⟨g1, h⟩ := h
  refine (fun _ : Rg (160 * (A 0 55)) => i_mul (cc3 c182_11) ?_) g1
  refine p_ald (cc3 c182_12) rfl ?_
  refine pm_getp hΦ (cc3 c182_13) (c := 33) rfl (by decide) ?_
  refine p_ald (cc3 c182_16) rfl ?_
  refine n_geti hΦ (v := A 0 55) (cc3 c182_17) (ji := 55) rfl rfl ?_
  obtain ⟨g2, h⟩ := h
  refine n_aldi hΦ (c := 33) (n := 12) (ni := 12) (cc3 c182_20) (by decide) rfl rfl rfl (by decide) g2 (v := A 33 (A 0 55)) rfl ?_
  obtain ⟨g3, h⟩ := h
  refine (fun _ : Rg ((160 * (A 0 55)) + (A 33 (A 0 55))) => i_add (cc3 c182_21) ?_) g3
  refine p_ild (cc3 c182_22) rfl ?_
  obtain ⟨g4, h⟩ := h
  refine id (α := Rg x1 → _) (fun _ => ?_) rr; refine n_asti hΦ (c := 34) (n := 1920) (ni := 1920) (hv := rfl) (cc3 c182_23) (by decide) rfl rfl rfl (by decide) g4 ?_
  refine p_ald (cc3 c182_24) rfl ?_
  refine pm_getp hΦ (cc3 c182_25) (c := 33) rfl (by decide) ?_
  refine p_ald (cc3 c182_28) rfl ?_
  refine n_geti hΦ (v := A 0 55) (cc3 c182_29) (ji := 55) rfl rfl ?_
  refine p_dup2 (cc3 c182_32) rfl rfl ?_
  refine n_aldi hΦ (c := 33) (n := 12) (ni := 12) (cc3 c182_33) (by decide) rfl rfl rfl (by decide) g2 (v := A 33 (A 0 55)) (by first | rfl | exact UA_eq | simp [UA]) ?_
  refine i_push (n := 1) (cc3 c182_34) zl_1 ?_
  obtain ⟨g5, h⟩ := h
  refine (fun _ : Rg ((A 33 (A 0 55)) + 1) => i_add (cc3 c182_35) ?_) g5
  refine id (α := Rg ((A 33 (A 0 55)) + 1) → _) (fun _ => ?_) g5; refine n_asti hΦ (c := 33) (n := 12) (ni := 12) (hv := rfl) (cc3 c182_36) (by decide) rfl rfl rfl (by decide) g2 ?_
  exact p_rv (cc3 c182_37) h
theorem S182 {d : Nat} (hd : 1 ≤ d) {m : Nat} {Φ : (Nat → Nat → Int32) → xM} (hΦ : MLaw m Φ) {A : Nat → Int → Int} (hR : RG A) {x1 : Int} (rr : Rg x1) (hp : (0 ≤ A 0 55 ∧ A 0 55 < 12) ∧ (0 ≤ A 33 (A 0 55) ∧ A 33 (A 0 55) < 160)) : xev xT d 182 [.ref m, .int (iz x1)] (Φ (mI A)) none (Φ (mI (m_put A x1))) := by
  refine xev_i (D := 0) hd (Nat.le_of_ble_eq_true rfl) (fun d hd => V182_0 hd hΦ hR rr ?_)

  obtain ⟨h1, h2⟩ := hp
  repeat' (first | refine And.intro ?_ ?_ | intro _)
  all_goals (first | omega | rfl)
theorem V181_0 {d : Nat} (hd : 0 ≤ d) {Q : Option Value → xM → Prop} {m : Nat} {Φ : (Nat → Nat → Int32) → xM} (hΦ : MLaw m Φ) {A : Nat → Int → Int} (hR : RG A) {x1 : Int} (rr : Rg x1) (h : (0 ≤ (A 0 52) ∧ (A 0 52) < 161) ∧ (Rg ((A 0 52) + 1)) ∧ (((x1 = (-3)) → (Rg ((A 0 54) + 1)) ∧ Q none (Φ (mI (UA (UA (UA A 35 (A 0 52) x1) 0 52 ((A 0 52) + 1)) 0 54 ((A 0 54) + 1))))) ∧ (¬ (x1 = (-3)) → (((x1 = (-9)) → (Rg ((A 0 54) + 1)) ∧ Q none (Φ (mI (UA (UA (UA A 35 (A 0 52) x1) 0 52 ((A 0 52) + 1)) 0 54 ((A 0 54) + 1))))) ∧ (¬ (x1 = (-9)) → (((x1 = (-10)) → (Rg ((A 0 54) + 1)) ∧ Q none (Φ (mI (UA (UA (UA A 35 (A 0 52) x1) 0 52 ((A 0 52) + 1)) 0 54 ((A 0 54) + 1))))) ∧ (¬ (x1 = (-10)) → Q none (Φ (mI (UA (UA A 35 (A 0 52) x1) 0 52 ((A 0 52) + 1))))))))))) : wpE (xT 181) (xev xT d) Q (0, [(0, .ref m), (1, .int (iz x1))], [], Φ (mI A)) := by
  refine p_ald (cc3 c181_0) rfl ?_
  refine pm_getp hΦ (cc3 c181_1) (c := 35) rfl (by decide) ?_
  refine p_ald (cc3 c181_4) rfl ?_
  refine n_geti hΦ (v := A 0 52) (cc3 c181_5) (ji := 52) rfl rfl ?_
  refine p_ild (cc3 c181_8) rfl ?_
  obtain ⟨g1, h⟩ := h
  refine id (α := Rg x1 → _) (fun _ => ?_) rr; refine n_asti hΦ (c := 35) (n := 161) (ni := 161) (hv := rfl) (cc3 c181_9) (by decide) rfl rfl rfl (by decide) g1 ?_
  refine p_ald (cc3 c181_10) rfl ?_
  refine p_dup (cc3 c181_11) rfl ?_
  refine n_geti hΦ (v := A 0 52) (cc3 c181_12) (ji := 52) rfl rfl ?_
  refine i_push (n := 1) (cc3 c181_15) zl_1 ?_
  obtain ⟨g2, h⟩ := h
  refine (fun _ : Rg ((A 0 52) + 1) => i_add (cc3 c181_16) ?_) g2
  refine (fun _ : Rg ((A 0 52) + 1) => n_puti hΦ (cc3 c181_17) (ji := 52) rfl ?_) g2
  refine p_ild (cc3 c181_20) rfl ?_
  refine i_push (n := (-3)) (cc3 c181_21) zl_m3 ?_
  refine i_icmp (c' := x1 = (-3)) (cc3 c181_23) (iz_inj rr (by decide)) (fun c => ?_) (fun c => ?_)
  · have h := h.1 c
    refine p_lc (ls' := [(0, .ref m)]) c181_38 rfl rfl ?_
    refine p_ald (cct c181_38 rfl) rfl ?_
    refine p_dup (cc3 c181_39) rfl ?_
    refine n_geti hΦ (v := A 0 54) (cc3 c181_40) (ji := 54) rfl rfl ?_
    refine i_push (n := 1) (cc3 c181_43) zl_1 ?_
    obtain ⟨g3, h⟩ := h
    refine (fun _ : Rg ((A 0 54) + 1) => i_add (cc3 c181_44) ?_) g3
    refine (fun _ : Rg ((A 0 54) + 1) => n_puti hΦ (cc3 c181_45) (ji := 54) rfl ?_) g3
    refine p_lc (ls' := []) c181_48 rfl rfl ?_
    exact p_rv (cct c181_48 rfl) h
  · have h := h.2 c
    refine p_ild (cc3 c181_26) rfl ?_
    refine i_push (n := (-9)) (cc3 c181_27) zl_m9 ?_
    refine i_icmp (c' := x1 = (-9)) (cc3 c181_29) (iz_inj rr (by decide)) (fun c => ?_) (fun c => ?_)
    · have h := h.1 c
      refine p_lc (ls' := [(0, .ref m)]) c181_38 rfl rfl ?_
      refine p_ald (cct c181_38 rfl) rfl ?_
      refine p_dup (cc3 c181_39) rfl ?_
      refine n_geti hΦ (v := A 0 54) (cc3 c181_40) (ji := 54) rfl rfl ?_
      refine i_push (n := 1) (cc3 c181_43) zl_1 ?_
      obtain ⟨g3, h⟩ := h
      refine (fun _ : Rg ((A 0 54) + 1) => i_add (cc3 c181_44) ?_) g3
      refine (fun _ : Rg ((A 0 54) + 1) => n_puti hΦ (cc3 c181_45) (ji := 54) rfl ?_) g3
      refine p_lc (ls' := []) c181_48 rfl rfl ?_
      exact p_rv (cct c181_48 rfl) h
    · have h := h.2 c
      refine p_ild (cc3 c181_32) rfl ?_
      refine i_push (n := (-10)) (cc3 c181_33) zl_m10 ?_
      refine i_icmp (c' := x1 = (-10)) (cc3 c181_35) (iz_inj rr (by decide)) (fun c => ?_) (fun c => ?_)
      · have h := h.1 c
        refine p_lc (ls' := [(0, .ref m)]) c181_38 rfl rfl ?_
        refine p_ald (cct c181_38 rfl) rfl ?_
        refine p_dup (cc3 c181_39) rfl ?_
        refine n_geti hΦ (v := A 0 54) (cc3 c181_40) (ji := 54) rfl rfl ?_
        refine i_push (n := 1) (cc3 c181_43) zl_1 ?_
        obtain ⟨g3, h⟩ := h
        refine (fun _ : Rg ((A 0 54) + 1) => i_add (cc3 c181_44) ?_) g3
        refine (fun _ : Rg ((A 0 54) + 1) => n_puti hΦ (cc3 c181_45) (ji := 54) rfl ?_) g3
        refine p_lc (ls' := []) c181_48 rfl rfl ?_
        exact p_rv (cct c181_48 rfl) h
      · have h := h.2 c
        refine p_lc (ls' := []) c181_48 rfl rfl ?_
        exact p_rv (cct c181_48 rfl) h
theorem S181 {d : Nat} (hd : 1 ≤ d) {m : Nat} {Φ : (Nat → Nat → Int32) → xM} (hΦ : MLaw m Φ) {A : Nat → Int → Int} (hR : RG A) {x1 : Int} (rr : Rg x1) (hp : (0 ≤ A 0 52 ∧ A 0 52 < 161) ∧ (0 ≤ A 0 54 ∧ A 0 54 ≤ 5)) : xev xT d 181 [.ref m, .int (iz x1)] (Φ (mI A)) none (Φ (mI (m_hold A x1))) := by
  refine xev_i (D := 0) hd (Nat.le_of_ble_eq_true rfl) (fun d hd => V181_0 hd hΦ hR rr ?_)

  obtain ⟨h1, h2⟩ := hp
  unfold m_hold
  repeat' (first | refine And.intro ?_ ?_ | intro _)
  all_goals (first | omega | rfl | (refine congrArg (fun z => Φ (mI z)) ?_; split <;> first | rfl | (exfalso; omega)))
theorem V185_0 {d : Nat} (hd : 1 ≤ d) {Q : Option Value → xM → Prop} {m : Nat} {Φ : (Nat → Nat → Int32) → xM} (hΦ : MLaw m Φ) {A : Nat → Int → Int} (hR : RG A) (h : ((¬ (A 0 47 = 3 ∧ A 0 48 = 2) → ((¬ (A 0 47 = 3 ∧ A 0 48 = 3) → ((¬ (A 0 47 = 4 ∧ A 0 48 = 60) → ((¬ (A 0 47 = 4 ∧ A 0 48 = 61) → ((¬ (A 0 47 = 4 ∧ A 0 48 = 43) → ((¬ (A 0 47 = 4 ∧ A 0 48 = 45) → ((¬ (A 0 47 = 4 ∧ A 0 48 = 42) → Q (some (.int (iz 0))) (Φ (mI A))) ∧ ((A 0 47 = 4 ∧ A 0 48 = 42) → Q (some (.int (iz (-8)))) (Φ (mI A))))) ∧ ((A 0 47 = 4 ∧ A 0 48 = 45) → Q (some (.int (iz (-7)))) (Φ (mI A))))) ∧ ((A 0 47 = 4 ∧ A 0 48 = 43) → Q (some (.int (iz (-6)))) (Φ (mI A))))) ∧ ((A 0 47 = 4 ∧ A 0 48 = 61) → Q (some (.int (iz (-5)))) (Φ (mI A))))) ∧ ((A 0 47 = 4 ∧ A 0 48 = 60) → Q (some (.int (iz (-4)))) (Φ (mI A))))) ∧ ((A 0 47 = 3 ∧ A 0 48 = 3) → Q (some (.int (iz (-2)))) (Φ (mI A))))) ∧ ((A 0 47 = 3 ∧ A 0 48 = 2) → Q (some (.int (iz (-1)))) (Φ (mI A))))) : wpE (xT 185) (xev xT d) Q (0, [(0, .ref m)], [], Φ (mI A)) := by
  refine p_ald (cc3 c185_0) rfl ?_
  refine i_push (n := 2) (cc3 c185_1) zl_2 ?_
  refine p_callV (cc3 c185_2) (Nat.le_of_ble_eq_true rfl) rfl rfl (Nat.le_of_ble_eq_true rfl) (ml_kd hΦ) (S177 (Nat.le_trans (by decide) hd) hΦ hR (by decide)) ?_
  refine i_ifB (cc3 c185_5) (fun c => ?_) (fun c => ?_)
  · have h := h.1 c
    refine p_ald (cc3 c185_12) rfl ?_
    refine i_push (n := 3) (cc3 c185_13) zl_3 ?_
    refine p_callV (cc3 c185_14) (Nat.le_of_ble_eq_true rfl) rfl rfl (Nat.le_of_ble_eq_true rfl) (ml_kd hΦ) (S177 (Nat.le_trans (by decide) hd) hΦ hR (by decide)) ?_
    refine i_ifB (cc3 c185_17) (fun c => ?_) (fun c => ?_)
    · have h := h.1 c
      refine p_ald (cc3 c185_25) rfl ?_
      refine i_push (n := 60) (cc3 c185_26) zl_60 ?_
      refine p_callV (cc3 c185_28) (Nat.le_of_ble_eq_true rfl) rfl rfl (Nat.le_of_ble_eq_true rfl) (ml_kd hΦ) (S180 (Nat.le_trans (by decide) hd) hΦ hR (by decide)) ?_
      refine i_ifB (cc3 c185_31) (fun c => ?_) (fun c => ?_)
      · have h := h.1 c
        refine p_ald (cc3 c185_39) rfl ?_
        refine i_push (n := 61) (cc3 c185_40) zl_61 ?_
        refine p_callV (cc3 c185_42) (Nat.le_of_ble_eq_true rfl) rfl rfl (Nat.le_of_ble_eq_true rfl) (ml_kd hΦ) (S180 (Nat.le_trans (by decide) hd) hΦ hR (by decide)) ?_
        refine i_ifB (cc3 c185_45) (fun c => ?_) (fun c => ?_)
        · have h := h.1 c
          refine p_ald (cc3 c185_53) rfl ?_
          refine i_push (n := 43) (cc3 c185_54) zl_43 ?_
          refine p_callV (cc3 c185_56) (Nat.le_of_ble_eq_true rfl) rfl rfl (Nat.le_of_ble_eq_true rfl) (ml_kd hΦ) (S180 (Nat.le_trans (by decide) hd) hΦ hR (by decide)) ?_
          refine i_ifB (cc3 c185_59) (fun c => ?_) (fun c => ?_)
          · have h := h.1 c
            refine p_ald (cc3 c185_67) rfl ?_
            refine i_push (n := 45) (cc3 c185_68) zl_45 ?_
            refine p_callV (cc3 c185_70) (Nat.le_of_ble_eq_true rfl) rfl rfl (Nat.le_of_ble_eq_true rfl) (ml_kd hΦ) (S180 (Nat.le_trans (by decide) hd) hΦ hR (by decide)) ?_
            refine i_ifB (cc3 c185_73) (fun c => ?_) (fun c => ?_)
            · have h := h.1 c
              refine p_ald (cc3 c185_81) rfl ?_
              refine i_push (n := 42) (cc3 c185_82) zl_42 ?_
              refine p_callV (cc3 c185_84) (Nat.le_of_ble_eq_true rfl) rfl rfl (Nat.le_of_ble_eq_true rfl) (ml_kd hΦ) (S180 (Nat.le_trans (by decide) hd) hΦ hR (by decide)) ?_
              refine i_ifB (cc3 c185_87) (fun c => ?_) (fun c => ?_)
              · have h := h.1 c
                refine i_push (n := 0) (cc3 c185_95) zl_0 ?_
                refine p_lc (ls' := []) c185_96 rfl rfl ?_
                exact p_ri (cct c185_96 rfl) trivial h
              · have h := h.2 c
                refine i_push (n := (-8)) (cc3 c185_90) zl_m8 ?_
                refine p_goto (cc3 c185_92) ?_
                refine p_lc (ls' := []) c185_96 rfl rfl ?_
                exact p_ri (cct c185_96 rfl) trivial h
            · have h := h.2 c
              refine i_push (n := (-7)) (cc3 c185_76) zl_m7 ?_
              refine p_goto (cc3 c185_78) ?_
              refine p_lc (ls' := []) c185_96 rfl rfl ?_
              exact p_ri (cct c185_96 rfl) trivial h
          · have h := h.2 c
            refine i_push (n := (-6)) (cc3 c185_62) zl_m6 ?_
            refine p_goto (cc3 c185_64) ?_
            refine p_lc (ls' := []) c185_96 rfl rfl ?_
            exact p_ri (cct c185_96 rfl) trivial h
        · have h := h.2 c
          refine i_push (n := (-5)) (cc3 c185_48) zl_m5 ?_
          refine p_goto (cc3 c185_50) ?_
          refine p_lc (ls' := []) c185_96 rfl rfl ?_
          exact p_ri (cct c185_96 rfl) trivial h
      · have h := h.2 c
        refine i_push (n := (-4)) (cc3 c185_34) zl_m4 ?_
        refine p_goto (cc3 c185_36) ?_
        refine p_lc (ls' := []) c185_96 rfl rfl ?_
        exact p_ri (cct c185_96 rfl) trivial h
    · have h := h.2 c
      refine i_push (n := (-2)) (cc3 c185_20) zl_m2 ?_
      refine p_goto (cc3 c185_22) ?_
      refine p_lc (ls' := []) c185_96 rfl rfl ?_
      exact p_ri (cct c185_96 rfl) trivial h
  · have h := h.2 c
    refine i_push (n := (-1)) (cc3 c185_8) zl_m1 ?_
    refine p_goto (cc3 c185_9) ?_
    refine p_lc (ls' := []) c185_96 rfl rfl ?_
    exact p_ri (cct c185_96 rfl) trivial h
theorem S185 {d : Nat} (hd : 2 ≤ d) {m : Nat} {Φ : (Nat → Nat → Int32) → xM} (hΦ : MLaw m Φ) {A : Nat → Int → Int} (hR : RG A) : xev xT d 185 [.ref m] (Φ (mI A)) (some (.int (iz (m_signOf A)))) (Φ (mI A)) := by
  refine xev_i (D := 1) hd (Nat.le_of_ble_eq_true rfl) (fun d hd => V185_0 hd hΦ hR ?_)
  unfold m_signOf
  repeat' (first | refine And.intro ?_ ?_ | intro _)
  all_goals (first | assumption | rfl | omega | (refine congrArg (fun z => some (Value.int (iz z))) ?_; first | omega | exact (bI_f (by omega)).symm | exact (bI_t (by omega)).symm | exact bI_i (by omega)) | (refine congrArg (fun z => some (Value.int (iz z))) ?_; (repeat' split) <;> first | rfl | (exfalso; omega)))
theorem V179_0 {d : Nat} (hd : 1 ≤ d) {Q : Option Value → xM → Prop} {m : Nat} {Φ : (Nat → Nat → Int32) → xM} (hΦ : MLaw m Φ) {A : Nat → Int → Int} (hR : RG A) {x1 : Int} (rr : Rg x1) (h : ((((A 0 47) = 1) → Q (some (.int (iz 1))) (Φ (mI A))) ∧ (¬ ((A 0 47) = 1) → ((((A 0 47) = 2) → Q (some (.int (iz 1))) (Φ (mI A))) ∧ (¬ ((A 0 47) = 2) → ((((A 0 54) = 5) → Q (some (.int (iz 0))) (Φ (mI A))) ∧ (¬ ((A 0 54) = 5) → ((¬ (A 0 47 = 3 ∧ A 0 48 = 4) → ((¬ (A 0 47 = 4 ∧ A 0 48 = 40) → ((¬ (A 0 47 = 4 ∧ A 0 48 = 45) → Q (some (.int (iz 0))) (Φ (mI A))) ∧ ((A 0 47 = 4 ∧ A 0 48 = 45) → Q (some (.int (iz 1))) (Φ (mI A))))) ∧ ((A 0 47 = 4 ∧ A 0 48 = 40) → Q (some (.int (iz 1))) (Φ (mI A))))) ∧ ((A 0 47 = 3 ∧ A 0 48 = 4) → ((x1 = 0 ∨ x1 = 1) ∧ Q (some (.int (iz x1))) (Φ (mI A)))))))))))) : wpE (xT 179) (xev xT d) Q (0, [(0, .ref m), (1, .int (iz x1))], [], Φ (mI A)) := by
  refine p_ald (cc3 c179_0) rfl ?_
  refine n_geti hΦ (v := A 0 47) (cc3 c179_1) (ji := 47) rfl rfl ?_
  refine i_push (n := 1) (cc3 c179_4) zl_1 ?_
  refine i_icmp (c' := (A 0 47) = 1) (cc3 c179_5) (iz_inj (hR 0 47) (by decide)) (fun c => ?_) (fun c => ?_)
  · have h := h.1 c
    refine p_lc (ls' := []) c179_16 rfl rfl ?_
    refine i_push (n := 1) (cct c179_16 rfl) zl_1 ?_
    exact i_ri (cc3 c179_17) (by decide) h
  · have h := h.2 c
    refine p_ald (cc3 c179_8) rfl ?_
    refine n_geti hΦ (v := A 0 47) (cc3 c179_9) (ji := 47) rfl rfl ?_
    refine i_push (n := 2) (cc3 c179_12) zl_2 ?_
    refine i_icmp (c' := (A 0 47) = 2) (cc3 c179_13) (iz_inj (hR 0 47) (by decide)) (fun c => ?_) (fun c => ?_)
    · have h := h.1 c
      refine p_lc (ls' := []) c179_16 rfl rfl ?_
      refine i_push (n := 1) (cct c179_16 rfl) zl_1 ?_
      exact i_ri (cc3 c179_17) (by decide) h
    · have h := h.2 c
      refine p_ald (cc3 c179_18) rfl ?_
      refine n_geti hΦ (v := A 0 54) (cc3 c179_19) (ji := 54) rfl rfl ?_
      refine i_push (n := 5) (cc3 c179_22) zl_5 ?_
      refine i_icmp (c' := (A 0 54) = 5) (cc3 c179_23) (iz_inj (hR 0 54) (by decide)) (fun c => ?_) (fun c => ?_)
      · have h := h.1 c
        refine i_push (n := 0) (cc3 c179_26) zl_0 ?_
        exact i_ri (cc3 c179_27) (by decide) h
      · have h := h.2 c
        refine p_ald (cc3 c179_28) rfl ?_
        refine i_push (n := 4) (cc3 c179_29) zl_4 ?_
        refine p_callV (cc3 c179_30) (Nat.le_of_ble_eq_true rfl) rfl rfl (Nat.le_of_ble_eq_true rfl) (ml_kd hΦ) (S177 (Nat.le_trans (by decide) hd) hΦ hR (by decide)) ?_
        refine i_ifB (cc3 c179_33) (fun c => ?_) (fun c => ?_)
        · have h := h.1 c
          refine p_ald (cc3 c179_38) rfl ?_
          refine i_push (n := 40) (cc3 c179_39) zl_40 ?_
          refine p_callV (cc3 c179_41) (Nat.le_of_ble_eq_true rfl) rfl rfl (Nat.le_of_ble_eq_true rfl) (ml_kd hΦ) (S180 (Nat.le_trans (by decide) hd) hΦ hR (by decide)) ?_
          refine i_ifB (cc3 c179_44) (fun c => ?_) (fun c => ?_)
          · have h := h.1 c
            refine p_ald (cc3 c179_47) rfl ?_
            refine i_push (n := 45) (cc3 c179_48) zl_45 ?_
            refine p_callV (cc3 c179_50) (Nat.le_of_ble_eq_true rfl) rfl rfl (Nat.le_of_ble_eq_true rfl) (ml_kd hΦ) (S180 (Nat.le_trans (by decide) hd) hΦ hR (by decide)) ?_
            refine i_ifB (cc3 c179_53) (fun c => ?_) (fun c => ?_)
            · have h := h.1 c
              refine i_push (n := 0) (cc3 c179_60) zl_0 ?_
              refine p_lc (ls' := []) c179_61 rfl rfl ?_
              exact i_ri (cct c179_61 rfl) (by decide) h
            · have h := h.2 c
              refine p_lc (ls' := []) c179_56 rfl rfl ?_
              refine i_push (n := 1) (cct c179_56 rfl) zl_1 ?_
              refine p_goto (cc3 c179_57) ?_
              exact i_ri (cct c179_61 rfl) (by decide) h
          · have h := h.2 c
            refine p_lc (ls' := []) c179_56 rfl rfl ?_
            refine i_push (n := 1) (cct c179_56 rfl) zl_1 ?_
            refine p_goto (cc3 c179_57) ?_
            exact i_ri (cct c179_61 rfl) (by decide) h
        · have h := h.2 c
          refine p_ild (cc3 c179_36) rfl ?_
          exact i_ri (cc3 c179_37) h.1 h.2
theorem S179 {d : Nat} (hd : 2 ≤ d) {m : Nat} {Φ : (Nat → Nat → Int32) → xM} (hΦ : MLaw m Φ) {A : Nat → Int → Int} (hR : RG A) {x1 : Int} (rr : Rg x1) (hp : (x1 = 0 ∨ x1 = 1)) : xev xT d 179 [.ref m, .int (iz x1)] (Φ (mI A)) (some (.int (iz (bI (m_ahead A x1))))) (Φ (mI A)) := by
  refine xev_i (D := 1) hd (Nat.le_of_ble_eq_true rfl) (fun d hd => V179_0 hd hΦ hR rr ?_)
  unfold m_ahead
  rcases hp with rfl | rfl
  all_goals (repeat' (first | refine And.intro ?_ ?_ | intro _))
  all_goals (first | assumption | rfl | omega | (refine congrArg (fun z => some (Value.int (iz z))) ?_; first | omega | exact (bI_f (by omega)).symm | exact (bI_t (by omega)).symm | exact bI_i (by omega)))
/-! the stack and the row as lists -/
def stL (f : Int → Int) : Nat → List Int
  | 0 => []
  | n + 1 => f n :: stL f n
theorem stL_len {f : Int → Int} : ∀ n : Nat, (stL f n).length = n
  | 0 => rfl
  | n + 1 => by simp [stL, stL_len n]
theorem stL_c {f g : Int → Int} : ∀ n : Nat, (∀ i : Nat, i < n → f i = g i) → stL f n = stL g n
  | 0, _ => rfl
  | n + 1, h => by simp only [stL]; rw [h n (by omega), stL_c n (fun i hi => h i (by omega))]
/-- what waits (the top first), and what is put (the last first) -/
def wts (A : Nat → Int → Int) : List Int := stL (A 35) (A 0 52).toNat
def puts (A : Nat → Int → Int) : List Int := stL (fun i => A 34 (160 * A 0 55 + i)) (A 33 (A 0 55)).toNat
theorem puts_put {A : Nat → Int → Int} {w : Int} (hp : (0 ≤ A 0 55 ∧ A 0 55 < 12) ∧ (0 ≤ A 33 (A 0 55) ∧ A 33 (A 0 55) < 160)) : puts (m_put A w) = w :: puts A := by
  obtain ⟨n, hn⟩ : ∃ n : Nat, A 33 (A 0 55) = n := ⟨(A 33 (A 0 55)).toNat, by omega⟩
  have e55 : m_put A w 0 55 = A 0 55 := by unfold m_put; rw [UA_c (by decide), UA_c (by decide)]
  have e33 : m_put A w 33 (A 0 55) = n + 1 := by unfold m_put; rw [UA_eq, hn]
  unfold puts
  rw [e55, e33, hn, show ((n : Int) + 1).toNat = n + 1 by omega, show (n : Int).toNat = n by omega]
  show m_put A w 34 (160 * A 0 55 + n) :: stL _ n = _
  congr 1
  · unfold m_put; rw [UA_c (by decide), hn, UA_eq]
  · refine stL_c n (fun i hi => ?_)
    unfold m_put; rw [UA_c (by decide), hn, UA_j (by omega)]
theorem puts_c {A A' : Nat → Int → Int} (h : A' 34 = A 34) (h2 : A' 33 = A 33) (h3 : A' 0 55 = A 0 55) : puts A' = puts A := by unfold puts; rw [h, h2, h3]
theorem wts_c {A A' : Nat → Int → Int} (h : A' 35 = A 35) (h2 : A' 0 52 = A 0 52) : wts A' = wts A := by unfold wts; rw [h, h2]
theorem wts_hold {A : Nat → Int → Int} {w : Int} (hp : 0 ≤ A 0 52) : wts (m_hold A w) = w :: wts A := by
  obtain ⟨n, hn⟩ : ∃ n : Nat, A 0 52 = n := ⟨(A 0 52).toNat, by omega⟩
  have e52 : m_hold A w 0 52 = n + 1 := by unfold m_hold; split <;> simp [UA, hn]
  have e35 : ∀ i : Int, m_hold A w 35 i = if i = n then w else A 35 i := fun i => by unfold m_hold; split <;> simp [UA, hn]
  unfold wts
  rw [e52, hn, show ((n : Int) + 1).toNat = n + 1 by omega, show (n : Int).toNat = n by omega]
  show m_hold A w 35 n :: stL _ n = _
  congr 1
  · rw [e35, if_pos rfl]
  · refine stL_c n (fun i hi => ?_)
    rw [e35, if_neg (by omega)]
/-- what settle pops -/
def popR (l : Int) : List Int → List Int
  | [] => []
  | x :: s => if l ≤ m_rank x then x :: popR l s else []
def popS (l : Int) : List Int → List Int
  | [] => []
  | x :: s => if l ≤ m_rank x then popS l s else x :: s
def cntO : List Int → Int
  | [] => 0
  | x :: s => (if x = -3 ∨ x = -9 then 1 else 0) + cntO s
theorem pop_app {l : Int} : ∀ s : List Int, popR l s ++ popS l s = s
  | [] => rfl
  | x :: s => by
    unfold popR popS
    split
    · simp [pop_app s]
    · rfl
def SetP (l : Int) (A A' : Nat → Int → Int) : Prop := Fr [33, 34] [52, 54] A A' ∧ (∀ i : Int, ¬ i = A 0 55 → A' 33 i = A 33 i) ∧ (∀ i : Int, i < 160 * A 0 55 ∨ 160 * A 0 55 + 160 ≤ i → A' 34 i = A 34 i) ∧ 0 ≤ A' 0 52 ∧ wts A' = popS l (wts A) ∧ puts A' = (popR l (wts A)).reverse ++ puts A ∧ A' 0 54 = A 0 54 - cntO (popR l (wts A)) ∧ 0 ≤ A' 33 (A 0 55) ∧ A' 33 (A 0 55) + A' 0 52 = A 33 (A 0 55) + A 0 52
theorem cntO_nn : ∀ s : List Int, 0 ≤ cntO s
  | [] => Int.le_refl 0
  | x :: s => by have := cntO_nn s; unfold cntO; split <;> omega
theorem SetP.rf {l : Int} {A : Nat → Int → Int} (h : popR l (wts A) = []) (h2 : popS l (wts A) = wts A) (h3 : 0 ≤ A 0 52) (h4 : 0 ≤ A 33 (A 0 55)) : SetP l A A := ⟨Fr.rf, fun _ _ => rfl, fun _ _ => rfl, h3, h2.symm, by rw [h]; rfl, by rw [h]; simp [cntO], h4, rfl⟩
theorem SetP.st {l : Int} {A B A' : Nat → Int → Int} {w v : Int} {s : List Int} (hw : wts A = w :: s) (hr : l ≤ m_rank w) (hF : Fr [33, 34] [52, 54] A B) (h33 : ∀ i : Int, ¬ i = A 0 55 → B 33 i = A 33 i) (h34 : ∀ i : Int, i < 160 * A 0 55 ∨ 160 * A 0 55 + 160 ≤ i → B 34 i = A 34 i) (hs : wts B = s) (hp : puts B = w :: puts A) (hv : B 0 54 = A 0 54 - v) (hv2 : v = if w = -3 ∨ w = -9 then 1 else 0) (h5 : B 33 (A 0 55) + B 0 52 = A 33 (A 0 55) + A 0 52) (h : SetP l B A') : SetP l A A' := by
  obtain ⟨q1, q2, q3, q4, q5, q6, q7, q8, q9⟩ := h
  have e55 : B 0 55 = A 0 55 := hF.2 55 (by decide)
  have er : popR l (wts A) = w :: popR l s := by rw [hw]; show (if l ≤ m_rank w then w :: popR l s else []) = _; rw [if_pos hr]
  have es : popS l (wts A) = popS l s := by rw [hw]; show (if l ≤ m_rank w then popS l s else w :: s) = _; rw [if_pos hr]
  rw [e55] at q2 q3 q8 q9
  rw [hs] at q5 q6 q7
  refine ⟨hF.tr q1, fun i hi => (q2 i hi).trans (h33 i hi), fun i hi => (q3 i hi).trans (h34 i hi), q4, by rw [es]; exact q5, ?_, ?_, q8, by rw [q9]; exact h5⟩
  · rw [er, q6, hp]; simp
  · rw [er, q7, hv]
    show _ = A 0 54 - ((if w = -3 ∨ w = -9 then 1 else 0) + cntO (popR l s))
    omega
theorem V183_0 {d : Nat} (hd : 1 ≤ d) {Q : Option Value → xM → Prop} {m : Nat} {Φ : (Nat → Nat → Int32) → xM} (hΦ : MLaw m Φ) {A : Nat → Int → Int} (hR : RG A) {x1 : Int} (rr : Rg x1) (h : ((((A 0 52) ≤ 0) → Q none (Φ (mI A))) ∧ (¬ ((A 0 52) ≤ 0) → (Rg ((A 0 52) - 1)) ∧ (0 ≤ ((A 0 52) - 1) ∧ ((A 0 52) - 1) < 161) ∧ ((((m_rank (A 35 ((A 0 52) - 1))) < x1) → Q none (Φ (mI A))) ∧ (¬ ((m_rank (A 35 ((A 0 52) - 1))) < x1) → (0 ≤ (A 0 55) ∧ (A 0 55) < 12) ∧ (0 ≤ (A 33 (A 0 55)) ∧ (A 33 (A 0 55)) < 160) ∧ (0 ≤ ((m_put (UA A 0 52 ((A 0 52) - 1)) (A 35 ((A 0 52) - 1))) 0 52) ∧ ((m_put (UA A 0 52 ((A 0 52) - 1)) (A 35 ((A 0 52) - 1))) 0 52) < 161) ∧ (((((m_put (UA A 0 52 ((A 0 52) - 1)) (A 35 ((A 0 52) - 1))) 35 ((m_put (UA A 0 52 ((A 0 52) - 1)) (A 35 ((A 0 52) - 1))) 0 52)) = (-3)) → (Rg (((m_put (UA A 0 52 ((A 0 52) - 1)) (A 35 ((A 0 52) - 1))) 0 54) - 1)) ∧ wpE (xT 183) (xev xT d) Q (0, [(0, .ref m), (1, .int (iz x1))], [], Φ (mI (UA (m_put (UA A 0 52 ((A 0 52) - 1)) (A 35 ((A 0 52) - 1))) 0 54 (((m_put (UA A 0 52 ((A 0 52) - 1)) (A 35 ((A 0 52) - 1))) 0 54) - 1))))) ∧ (¬ (((m_put (UA A 0 52 ((A 0 52) - 1)) (A 35 ((A 0 52) - 1))) 35 ((m_put (UA A 0 52 ((A 0 52) - 1)) (A 35 ((A 0 52) - 1))) 0 52)) = (-3)) → (((((m_put (UA A 0 52 ((A 0 52) - 1)) (A 35 ((A 0 52) - 1))) 35 ((m_put (UA A 0 52 ((A 0 52) - 1)) (A 35 ((A 0 52) - 1))) 0 52)) = (-9)) → (Rg (((m_put (UA A 0 52 ((A 0 52) - 1)) (A 35 ((A 0 52) - 1))) 0 54) - 1)) ∧ wpE (xT 183) (xev xT d) Q (0, [(0, .ref m), (1, .int (iz x1))], [], Φ (mI (UA (m_put (UA A 0 52 ((A 0 52) - 1)) (A 35 ((A 0 52) - 1))) 0 54 (((m_put (UA A 0 52 ((A 0 52) - 1)) (A 35 ((A 0 52) - 1))) 0 54) - 1))))) ∧ (¬ (((m_put (UA A 0 52 ((A 0 52) - 1)) (A 35 ((A 0 52) - 1))) 35 ((m_put (UA A 0 52 ((A 0 52) - 1)) (A 35 ((A 0 52) - 1))) 0 52)) = (-9)) → wpE (xT 183) (xev xT d) Q (0, [(0, .ref m), (1, .int (iz x1))], [], Φ (mI (m_put (UA A 0 52 ((A 0 52) - 1)) (A 35 ((A 0 52) - 1)))))))))))))) : wpE (xT 183) (xev xT d) Q (0, [(0, .ref m), (1, .int (iz x1))], [], Φ (mI A)) := by
  refine p_ald (cct c183_0 rfl) rfl ?_
  refine n_geti hΦ (v := A 0 52) (cc3 c183_1) (ji := 52) rfl rfl ?_
  refine i_if (c' := (A 0 52) ≤ 0) (cc3 c183_4) (c_le0 (hR 0 52)) (fun c => ?_) (fun c => ?_)
  · have h := h.1 c
    refine p_lc (ls' := []) c183_90 rfl rfl ?_
    exact p_rv (cct c183_90 rfl) h
  · have h := h.2 c
    refine p_ald (cc3 c183_7) rfl ?_
    refine p_ald (cc3 c183_8) rfl ?_
    refine pm_getp hΦ (cc3 c183_9) (c := 35) rfl (by decide) ?_
    refine p_ald (cc3 c183_12) rfl ?_
    refine n_geti hΦ (v := A 0 52) (cc3 c183_13) (ji := 52) rfl rfl ?_
    refine i_push (n := 1) (cc3 c183_16) zl_1 ?_
    obtain ⟨g1, h⟩ := h
    refine (fun _ : Rg ((A 0 52) - 1) => i_sub (cc3 c183_17) ?_) g1
    obtain ⟨g2, h⟩ := h
    refine n_aldi hΦ (c := 35) (n := 161) (ni := 161) (cc3 c183_18) (by decide) rfl rfl rfl (by decide) g2 (v := A 35 ((A 0 52) - 1)) rfl ?_
    refine p_callV (cc3 c183_19) (Nat.le_of_ble_eq_true rfl) rfl rfl (Nat.le_of_ble_eq_true rfl) (ml_kd hΦ) (S184 (Nat.le_trans (by decide) hd) hΦ hR (hR 35 ((A 0 52) - 1))) ?_
    refine p_ild (cc3 c183_22) rfl ?_
    refine i_icmp (c' := (m_rank (A 35 ((A 0 52) - 1))) < x1) (cc3 c183_23) (iz_lt (by have := m_rank_b (w := (A 35 ((A 0 52) - 1))); omega) rr) (fun c => ?_) (fun c => ?_)
    · have h := h.1 c
      refine p_lc (ls' := []) c183_90 rfl rfl ?_
      exact p_rv (cct c183_90 rfl) h
    · have h := h.2 c
      refine p_ald (cc3 c183_26) rfl ?_
      refine p_dup (cc3 c183_27) rfl ?_
      refine n_geti hΦ (v := A 0 52) (cc3 c183_28) (ji := 52) rfl rfl ?_
      refine i_push (n := 1) (cc3 c183_31) zl_1 ?_
      refine (fun _ : Rg ((A 0 52) - 1) => i_sub (cc3 c183_32) ?_) g1
      refine (fun _ : Rg ((A 0 52) - 1) => n_puti hΦ (cc3 c183_33) (ji := 52) rfl ?_) g1
      refine p_ald (cc3 c183_36) rfl ?_
      refine p_ald (cc3 c183_37) rfl ?_
      refine pm_getp hΦ (cc3 c183_38) (c := 35) rfl (by decide) ?_
      refine p_ald (cc3 c183_41) rfl ?_
      refine n_geti hΦ (v := (A 0 52) - 1) (cc3 c183_42) (ji := 52) rfl rfl ?_
      refine n_aldi hΦ (c := 35) (n := 161) (ni := 161) (cc3 c183_45) (by decide) rfl rfl rfl (by decide) g2 (v := A 35 ((A 0 52) - 1)) (by first | rfl | exact UA_eq | simp [UA]) ?_
      obtain ⟨g3, h⟩ := h
      obtain ⟨g4, h⟩ := h
      refine p_callV (cc3 c183_46) (Nat.le_of_ble_eq_true rfl) rfl rfl (Nat.le_of_ble_eq_true rfl) (ml_kd hΦ) (S182 (Nat.le_trans (by decide) hd) hΦ (rg_UA hR g1) (hR 35 ((A 0 52) - 1)) ⟨g3, g4⟩) ?_
      refine p_ald (cc3 c183_49) rfl ?_
      refine pm_getp hΦ (cc3 c183_50) (c := 35) rfl (by decide) ?_
      refine p_ald (cc3 c183_53) rfl ?_
      refine n_geti hΦ (v := (m_put (UA A 0 52 ((A 0 52) - 1)) (A 35 ((A 0 52) - 1))) 0 52) (cc3 c183_54) (ji := 52) rfl rfl ?_
      obtain ⟨g5, h⟩ := h
      refine n_aldi hΦ (c := 35) (n := 161) (ni := 161) (cc3 c183_57) (by decide) rfl rfl rfl (by decide) g5 (v := (m_put (UA A 0 52 ((A 0 52) - 1)) (A 35 ((A 0 52) - 1))) 35 ((m_put (UA A 0 52 ((A 0 52) - 1)) (A 35 ((A 0 52) - 1))) 0 52)) rfl ?_
      refine i_push (n := (-3)) (cc3 c183_58) zl_m3 ?_
      refine i_icmp (c' := ((m_put (UA A 0 52 ((A 0 52) - 1)) (A 35 ((A 0 52) - 1))) 35 ((m_put (UA A 0 52 ((A 0 52) - 1)) (A 35 ((A 0 52) - 1))) 0 52)) = (-3)) (cc3 c183_60) (iz_inj ((rg_put (A := (UA A 0 52 ((A 0 52) - 1))) (rg_UA hR g1) (hR 35 ((A 0 52) - 1)) ⟨g3, g4⟩) 35 ((m_put (UA A 0 52 ((A 0 52) - 1)) (A 35 ((A 0 52) - 1))) 0 52)) (by decide)) (fun c => ?_) (fun c => ?_)
      · have h := h.1 c
        refine p_ald (cct c183_77 rfl) rfl ?_
        refine p_dup (cc3 c183_78) rfl ?_
        refine n_geti hΦ (v := (m_put (UA A 0 52 ((A 0 52) - 1)) (A 35 ((A 0 52) - 1))) 0 54) (cc3 c183_79) (ji := 54) rfl rfl ?_
        refine i_push (n := 1) (cc3 c183_82) zl_1 ?_
        obtain ⟨g6, h⟩ := h
        refine (fun _ : Rg (((m_put (UA A 0 52 ((A 0 52) - 1)) (A 35 ((A 0 52) - 1))) 0 54) - 1) => i_sub (cc3 c183_83) ?_) g6
        refine (fun _ : Rg (((m_put (UA A 0 52 ((A 0 52) - 1)) (A 35 ((A 0 52) - 1))) 0 54) - 1) => n_puti hΦ (cc3 c183_84) (ji := 54) rfl ?_) g6
        refine p_goto (cc3 c183_87) ?_
        exact h
      · have h := h.2 c
        refine p_ald (cc3 c183_63) rfl ?_
        refine pm_getp hΦ (cc3 c183_64) (c := 35) rfl (by decide) ?_
        refine p_ald (cc3 c183_67) rfl ?_
        refine n_geti hΦ (v := (m_put (UA A 0 52 ((A 0 52) - 1)) (A 35 ((A 0 52) - 1))) 0 52) (cc3 c183_68) (ji := 52) rfl rfl ?_
        refine n_aldi hΦ (c := 35) (n := 161) (ni := 161) (cc3 c183_71) (by decide) rfl rfl rfl (by decide) g5 (v := (m_put (UA A 0 52 ((A 0 52) - 1)) (A 35 ((A 0 52) - 1))) 35 ((m_put (UA A 0 52 ((A 0 52) - 1)) (A 35 ((A 0 52) - 1))) 0 52)) rfl ?_
        refine i_push (n := (-9)) (cc3 c183_72) zl_m9 ?_
        refine i_icmp (c' := ((m_put (UA A 0 52 ((A 0 52) - 1)) (A 35 ((A 0 52) - 1))) 35 ((m_put (UA A 0 52 ((A 0 52) - 1)) (A 35 ((A 0 52) - 1))) 0 52)) = (-9)) (cc3 c183_74) (iz_inj ((rg_put (A := (UA A 0 52 ((A 0 52) - 1))) (rg_UA hR g1) (hR 35 ((A 0 52) - 1)) ⟨g3, g4⟩) 35 ((m_put (UA A 0 52 ((A 0 52) - 1)) (A 35 ((A 0 52) - 1))) 0 52)) (by decide)) (fun c => ?_) (fun c => ?_)
        · have h := h.1 c
          refine p_ald (cct c183_77 rfl) rfl ?_
          refine p_dup (cc3 c183_78) rfl ?_
          refine n_geti hΦ (v := (m_put (UA A 0 52 ((A 0 52) - 1)) (A 35 ((A 0 52) - 1))) 0 54) (cc3 c183_79) (ji := 54) rfl rfl ?_
          refine i_push (n := 1) (cc3 c183_82) zl_1 ?_
          obtain ⟨g6, h⟩ := h
          refine (fun _ : Rg (((m_put (UA A 0 52 ((A 0 52) - 1)) (A 35 ((A 0 52) - 1))) 0 54) - 1) => i_sub (cc3 c183_83) ?_) g6
          refine (fun _ : Rg (((m_put (UA A 0 52 ((A 0 52) - 1)) (A 35 ((A 0 52) - 1))) 0 54) - 1) => n_puti hΦ (cc3 c183_84) (ji := 54) rfl ?_) g6
          refine p_goto (cc3 c183_87) ?_
          exact h
        · have h := h.2 c
          exact h

theorem L183 {d : Nat} (hd : 1 ≤ d) {Q : Option Value → xM → Prop} {m : Nat} {Φ : (Nat → Nat → Int32) → xM} (hΦ : MLaw m Φ) {l : Int} (hl : 1 ≤ l ∧ l ≤ 7) :
    ∀ (h : Nat) (A : Nat → Int → Int), A 0 52 = h → h ≤ 161 → RG A → (0 ≤ A 0 55 ∧ A 0 55 < 12) → (0 ≤ A 33 (A 0 55) ∧ A 33 (A 0 55) + A 0 52 ≤ 160) → (cntO (popR l (wts A)) ≤ A 0 54 ∧ A 0 54 ≤ 5) → (∀ A', RG A' → SetP l A A' → Q none (Φ (mI A'))) → wpE (xT 183) (xev xT d) Q (0, [(0, .ref m), (1, .int (iz l))], [], Φ (mI A)) := by
  intro h
  induction h with
  | zero =>
    intro A hh hh2 hR h55 h33 hc hQ
    have ew : wts A = [] := by unfold wts; rw [hh]; rfl
    refine V183_0 hd hΦ hR (by omega) ?_
    exact ⟨fun _ => hQ A hR (SetP.rf (by rw [ew]; rfl) (by rw [ew]; rfl) (by omega) h33.1), fun q => absurd (show A 0 52 ≤ 0 by omega) q⟩
  | succ h ih =>
    intro A hh hh2 hR h55 h33 hc hQ
    have ew : wts A = A 35 h :: stL (A 35) h := by unfold wts; rw [hh]; rfl
    have e1 : A 0 52 - 1 = h := by omega
    refine V183_0 hd hΦ hR (by omega) ?_
    rw [e1]
    have hBp : (0 ≤ UA A 0 52 h 0 55 ∧ UA A 0 52 h 0 55 < 12) ∧ (0 ≤ UA A 0 52 h 33 (UA A 0 52 h 0 55) ∧ UA A 0 52 h 33 (UA A 0 52 h 0 55) < 160) := ⟨h55, by show 0 ≤ A 33 (A 0 55) ∧ A 33 (A 0 55) < 160; omega⟩
    have b52 : m_put (UA A 0 52 h) (A 35 h) 0 52 = h := rfl
    have b54 : m_put (UA A 0 52 h) (A 35 h) 0 54 = A 0 54 := rfl
    have b55 : m_put (UA A 0 52 h) (A 35 h) 0 55 = A 0 55 := rfl
    have b35 : m_put (UA A 0 52 h) (A 35 h) 35 = A 35 := rfl
    have b33 : m_put (UA A 0 52 h) (A 35 h) 33 (A 0 55) = A 33 (A 0 55) + 1 := UA_eq
    have bp : puts (m_put (UA A 0 52 h) (A 35 h)) = A 35 h :: puts A := puts_put hBp
    have bw : wts (m_put (UA A 0 52 h) (A 35 h)) = stL (A 35) h := by unfold wts; rw [b52, b35]; rfl
    have bF : Fr [33, 34] [52, 54] A (m_put (UA A 0 52 h) (A 35 h)) := ((Fr.rf.fld (by decide)).row (by decide) (by decide)).row (by decide) (by decide)
    have bR : RG (m_put (UA A 0 52 h) (A 35 h)) := rg_put (rg_UA hR (by omega)) (hR _ _) hBp
    have b33' : ∀ i : Int, ¬ i = A 0 55 → m_put (UA A 0 52 h) (A 35 h) 33 i = A 33 i := fun i hi => by unfold m_put; rw [UA_j (show ¬ i = UA A 0 52 h 0 55 from hi), UA_c (by decide), UA_c (by decide)]
    have b34' : ∀ i : Int, i < 160 * A 0 55 ∨ 160 * A 0 55 + 160 ≤ i → m_put (UA A 0 52 h) (A 35 h) 34 i = A 34 i := fun i hi => by
      unfold m_put; rw [UA_c (by decide), UA_j (by show ¬ i = 160 * A 0 55 + A 33 (A 0 55); omega), UA_c (by decide)]
    have hmr := m_rank_b (w := A 35 h)
    refine ⟨fun q => absurd q (by omega), fun _ => ⟨by omega, by omega, fun c => ?_, fun c => ?_⟩⟩
    · refine hQ A hR (SetP.rf ?_ ?_ (by omega) h33.1)
      · rw [ew]; show (if l ≤ m_rank (A 35 h) then A 35 h :: popR l (stL (A 35) h) else []) = []; rw [if_neg (by omega)]
      · rw [ew]; show (if l ≤ m_rank (A 35 h) then popS l (stL (A 35) h) else A 35 h :: stL (A 35) h) = _; rw [if_neg (by omega)]
    · have ecn : cntO (popR l (wts A)) = (if A 35 h = -3 ∨ A 35 h = -9 then 1 else 0) + cntO (popR l (stL (A 35) h)) := by
        rw [ew]; show cntO (if l ≤ m_rank (A 35 h) then A 35 h :: popR l (stL (A 35) h) else []) = _; rw [if_pos (by omega)]; rfl
      have cn := cntO_nn (popR l (stL (A 35) h))
      have hdec : (A 35 h = -3 ∨ A 35 h = -9) → wpE (xT 183) (xev xT d) Q (0, [(0, .ref m), (1, .int (iz l))], [], Φ (mI (UA (m_put (UA A 0 52 h) (A 35 h)) 0 54 (A 0 54 - 1)))) := fun q => by
        rw [if_pos q] at ecn
        have w2 : wts (UA (m_put (UA A 0 52 h) (A 35 h)) 0 54 (A 0 54 - 1)) = stL (A 35) h := by rw [← bw]; rfl
        refine ih _ rfl (by omega) (rg_UA bR (by omega)) h55 (by show 0 ≤ m_put (UA A 0 52 h) (A 35 h) 33 (A 0 55) ∧ m_put (UA A 0 52 h) (A 35 h) 33 (A 0 55) + h ≤ 160; omega) ⟨by rw [w2]; show _ ≤ A 0 54 - 1; omega, by show A 0 54 - 1 ≤ 5; omega⟩ (fun A' hR' hS => hQ A' hR' ?_)
        refine SetP.st (w := A 35 h) (v := 1) ew (by omega) (bF.fld (by decide)) (fun i hi => (UA_c (by decide)).trans (b33' i hi)) (fun i hi => (UA_c (by decide)).trans (b34' i hi)) w2 (by rw [← bp]; rfl) rfl (by rw [if_pos q]) ?_ hS
        show m_put (UA A 0 52 h) (A 35 h) 33 (A 0 55) + h = _
        omega
      refine ⟨h55, by omega, by rw [b52]; omega, ?_⟩
      rw [b52, b35, b54]
      refine ⟨fun q => ⟨by omega, hdec (Or.inl q)⟩, fun q => ⟨fun q2 => ⟨by omega, hdec (Or.inr q2)⟩, fun q2 => ?_⟩⟩
      rw [if_neg (by omega)] at ecn
      refine ih _ rfl (by omega) bR h55 (by show 0 ≤ m_put (UA A 0 52 h) (A 35 h) 33 (A 0 55) ∧ m_put (UA A 0 52 h) (A 35 h) 33 (A 0 55) + h ≤ 160; omega) ⟨by rw [bw]; show _ ≤ A 0 54; omega, hc.2⟩ (fun A' hR' hS => hQ A' hR' ?_)
      refine SetP.st (w := A 35 h) (v := 0) ew (by omega) bF b33' b34' bw bp (by rw [b54]; omega) (by rw [if_neg (by omega)]) ?_ hS
      show m_put (UA A 0 52 h) (A 35 h) 33 (A 0 55) + h = _
      omega
theorem S183 {d : Nat} (hd : 2 ≤ d) {m : Nat} {Φ : (Nat → Nat → Int32) → xM} (hΦ : MLaw m Φ) {A : Nat → Int → Int} (hR : RG A) {x1 : Int} (rr : Rg x1) (hp : (1 ≤ x1 ∧ x1 ≤ 7) ∧ (0 ≤ A 0 52 ∧ A 0 52 ≤ 161) ∧ (0 ≤ A 0 55 ∧ A 0 55 < 12) ∧ (0 ≤ A 33 (A 0 55) ∧ A 33 (A 0 55) + A 0 52 ≤ 160) ∧ (cntO (popR x1 (wts A)) ≤ A 0 54 ∧ A 0 54 ≤ 5)) : ∃ (A' : Nat → Int → Int), xev xT d 183 [.ref m, .int (iz x1)] (Φ (mI A)) none (Φ (mI A')) ∧ RG A' ∧ (SetP x1 A A') := by
  refine xev_g (i := 183) (as := [.ref m, .int (iz x1)]) (σ := Φ (mI A)) (Q := fun r_ σ_ => ∃ (A' : Nat → Int → Int), r_ = none ∧ σ_ = Φ (mI A') ∧ RG A' ∧ (SetP x1 A A')) (D := 1) hd (Nat.le_of_ble_eq_true rfl) (fun r_ σ_ he hq => ?_) (fun d hd => ?_)
  · obtain ⟨A', rfl, rfl, hq⟩ := hq
    exact ⟨A', he, hq⟩

  obtain ⟨h1, h2, h3, h4, h5⟩ := hp
  exact L183 hd hΦ h1 (A 0 52).toNat A (by omega) (by omega) hR h3 h4 h5 (fun A' hR' hS => ⟨A', rfl, rfl, hR', hS⟩)
