def wr (x : Int) : Int := (iz x).toInt
theorem rg_wr {x : Int} : Rg (wr x) := rg_t _
theorem wr_of {x : Int} (h : Rg x) : wr x = x := iz_t h
/-- reckoning, by the model's codes -/
def m_both (w x y : Int) : Int := if w = -1 then bI (¬ x = 0 ∨ ¬ y = 0) else if w = -2 then bI (¬ x = 0 ∧ ¬ y = 0) else if w = -4 then bI (x < y) else if w = -5 then bI (x = y) else if w = -6 then wr (x + y) else if w = -7 then wr (x - y) else wr (x * y)
def evU (w x : Int) : Int := if w = -9 then wr (-x) else bI (x = 0)
def evs (fct : Int → Int) : List Int → List Int → List Int
  | [], s => s
  | w :: r, s => if 0 ≤ w then evs fct r ((if w < 10000 then w else fct (w - 10000)) :: s) else if w = -3 ∨ w = -9 then (match s with
    | x :: s' => evs fct r (evU w x :: s')
    | [] => []) else (match s with
    | y :: x :: s' => evs fct r (m_both w x y :: s')
    | _ => [])
def evv (fct : Int → Int) (L : List Int) : Int := (evs fct L []).headD 0
def vsM : List Int → Nat → Option Nat
  | [], h => some h
  | w :: r, h => if 0 ≤ w then vsM r (h + 1) else if w = -3 ∨ w = -9 then (if 1 ≤ h then vsM r h else none) else (if 2 ≤ h then vsM r (h - 1) else none)
theorem rg_both {w x y : Int} : Rg (m_both w x y) := by unfold m_both; (repeat' split) <;> first | exact rg_bI | exact rg_wr
theorem rg_evU {w x : Int} : Rg (evU w x) := by unfold evU; split <;> first | exact rg_bI | exact rg_wr
theorem cm_c {c : Int} (h : cdOK c) : (0 ≤ c → cm c = c) ∧ (c < 0 → cm c < 0 ∧ -9 ≤ cm c ∧ ((c = -204 ∨ c = -300) ↔ (cm c = -3 ∨ cm c = -9))) := by
  rcases h with h | h | h | ⟨h1, h2⟩
  · refine ⟨fun _ => ?_, fun q => by omega⟩
    unfold cm; rw [if_neg (by omega), if_neg (by omega), if_neg (by omega)]
  · subst h; decide
  · subst h; decide
  · rcases lvC_c rfl h1 with e | e | e | e | e | e | e
    all_goals (have e' : c = -(-c) := by omega); rw [e] at e'; subst e'; decide
theorem vsM_cm : ∀ (L : List Int) (h : Nat), (∀ c ∈ L, cdOK c) → vsM (L.map cm) h = vs L h
  | [], h, _ => rfl
  | c :: L, h, hc => by
    have h1 := cm_c (hc c (by simp))
    have ih := fun k => vsM_cm L k (fun x hx => hc x (by simp [hx]))
    show (if 0 ≤ cm c then vsM (L.map cm) (h + 1) else if cm c = -3 ∨ cm c = -9 then (if 1 ≤ h then vsM (L.map cm) h else none) else (if 2 ≤ h then vsM (L.map cm) (h - 1) else none)) = (if 0 ≤ c then vs L (h + 1) else if c = -204 ∨ c = -300 then (if 1 ≤ h then vs L h else none) else (if 2 ≤ h then vs L (h - 1) else none))
    rw [ih, ih, ih]
    by_cases q : 0 ≤ c
    · rw [if_pos q, if_pos (by rw [h1.1 q]; exact q)]
    · have h2 := h1.2 (by omega)
      rw [if_neg q, if_neg (by omega)]
      by_cases q2 : c = -204 ∨ c = -300
      · rw [if_pos q2, if_pos (h2.2.2.mp q2)]
      · rw [if_neg q2, if_neg (fun z => q2 (h2.2.2.mpr z))]
def upL (f : Int → Int) : Nat → Nat → List Int
  | 0, _ => []
  | n + 1, k => f k :: upL f n (k + 1)
theorem upL_s (f : Int → Int) : ∀ n k : Nat, upL f (n + 1) k = upL f n k ++ [f ((k + n : Nat) : Int)]
  | 0, k => rfl
  | n + 1, k => by
    show f k :: upL f (n + 1) (k + 1) = f k :: upL f n (k + 1) ++ _
    rw [upL_s f n (k + 1), show k + 1 + n = k + (n + 1) by omega]
    rfl
theorem stL_up (f : Int → Int) : ∀ n : Nat, (stL f n).reverse = upL f n 0
  | 0 => rfl
  | n + 1 => by
    rw [upL_s, ← stL_up f n]
    show (f n :: stL f n).reverse = _
    simp
def rowL (A : Nat → Int → Int) (o : Int) : List Int := upL (fun i => A 34 (160 * o + i)) (A 33 o).toNat 0
theorem RowIs.row {A : Nat → Int → Int} {o : Int} {L : List Int} (h : RowIs A o L) : rowL A o = L.map cm := by
  unfold rowL
  rw [← stL_up, h.1, Int.toNat_natCast, h.2, List.reverse_reverse]
def WkOK (A : Nat → Int → Int) (o : Int) : Prop := (0 ≤ A 33 o ∧ A 33 o ≤ 160) ∧ vsM (rowL A o) 0 = some 1 ∧ ∀ w ∈ rowL A o, -9 ≤ w ∧ w < 10006
theorem evs_c {f g : Int → Int} (h : ∀ j : Int, 0 ≤ j → j < 6 → f j = g j) : ∀ (L s : List Int), (∀ w ∈ L, w < 10006) → evs f L s = evs g L s
  | [], _, _ => rfl
  | w :: L, s, hw => by
    have ih := fun s => evs_c h L s (fun x hx => hw x (by simp [hx]))
    have h1 := hw w (by simp)
    unfold evs
    by_cases q : 0 ≤ w
    · rw [if_pos q, if_pos q, ih]
      by_cases q2 : w < 10000
      · rw [if_pos q2, if_pos q2]
      · rw [if_neg q2, if_neg q2, h _ (by omega) (by omega)]
    · rw [if_neg q, if_neg q]
      split
      · split
        · exact ih _
        · rfl
      · split
        · exact ih _
        · rfl
theorem V189_0 {d : Nat} (hd : 0 ≤ d) {Q : Option Value → xM → Prop} {m : Nat} {Φ : (Nat → Nat → Int32) → xM} (hΦ : MLaw m Φ) {A : Nat → Int → Int} (hR : RG A) {x1 x2 x3 : Int} (rr : Rg x1 ∧ Rg x2 ∧ Rg x3) (h : (((x1 = (-7)) → Q (some (.int (iz (wr (x2 - x3))))) (Φ (mI A))) ∧ (¬ (x1 = (-7)) → ((x1 = (-6)) → Q (some (.int (iz (wr (x2 + x3))))) (Φ (mI A))) ∧ (¬ (x1 = (-6)) → ((x1 = (-5)) → (((x2 = x3) → Q (some (.int (iz 1))) (Φ (mI A))) ∧ (¬ (x2 = x3) → Q (some (.int (iz 0))) (Φ (mI A))))) ∧ (¬ (x1 = (-5)) → ((x1 = (-4)) → (((x3 ≤ x2) → Q (some (.int (iz 0))) (Φ (mI A))) ∧ (¬ (x3 ≤ x2) → Q (some (.int (iz 1))) (Φ (mI A))))) ∧ (¬ (x1 = (-4)) → ((x1 = (-3)) → Q (some (.int (iz (wr (x2 * x3))))) (Φ (mI A))) ∧ (¬ (x1 = (-3)) → ((x1 = (-2)) → (((x2 = 0) → Q (some (.int (iz 0))) (Φ (mI A))) ∧ (¬ (x2 = 0) → (((x3 = 0) → Q (some (.int (iz 0))) (Φ (mI A))) ∧ (¬ (x3 = 0) → Q (some (.int (iz 1))) (Φ (mI A))))))) ∧ (¬ (x1 = (-2)) → ((x1 = (-1)) → (((x2 = 0) → (((x3 = 0) → Q (some (.int (iz 0))) (Φ (mI A))) ∧ (¬ (x3 = 0) → Q (some (.int (iz 1))) (Φ (mI A))))) ∧ (¬ (x2 = 0) → Q (some (.int (iz 1))) (Φ (mI A))))) ∧ (¬ (x1 = (-1)) → Q (some (.int (iz (wr (x2 * x3))))) (Φ (mI A))))))))))) : wpE (xT 189) (xev xT d) Q (0, [(0, .ref m), (1, .int (iz x1)), (2, .int (iz x2)), (3, .int (iz x3))], [], Φ (mI A)) := by
  refine p_ild (cc3 c189_0) rfl ?_
  refine (fun _ : Rg x1 => p_sw (cc3 c189_1) ?_) rr.1
  refine sw_c (n := (-7)) rr.1 zl_m7 (by decide) (fun c => ?_) (fun c => ?_)
  · have h := h.1 c
    refine p_ild (cc3 c189_98) rfl ?_
    refine p_ild (cc3 c189_99) rfl ?_
    refine i_op (z := wr (x2 - x3)) (cc3 c189_100) (iz_sub.trans (iz_of _).symm) ?_
    exact p_ri (cc3 c189_101) trivial h
  · have h := h.2 c
    refine sw_c (n := (-6)) rr.1 zl_m6 (by decide) (fun c => ?_) (fun c => ?_)
    · have h := h.1 c
      refine p_ild (cc3 c189_94) rfl ?_
      refine p_ild (cc3 c189_95) rfl ?_
      refine i_op (z := wr (x2 + x3)) (cc3 c189_96) (iz_add.trans (iz_of _).symm) ?_
      exact p_ri (cc3 c189_97) trivial h
    · have h := h.2 c
      refine sw_c (n := (-5)) rr.1 zl_m5 (by decide) (fun c => ?_) (fun c => ?_)
      · have h := h.1 c
        refine p_ild (cc3 c189_83) rfl ?_
        refine p_ild (cc3 c189_84) rfl ?_
        refine i_icmp (c' := x2 = x3) (cc3 c189_85) (iz_inj rr.2.1 rr.2.2) (fun c => ?_) (fun c => ?_)
        · have h := h.1 c
          refine i_push (n := 1) (cc3 c189_88) zl_1 ?_
          refine p_goto (cc3 c189_89) ?_
          refine p_lc (ls' := []) c189_93 rfl rfl ?_
          exact p_ri (cct c189_93 rfl) trivial h
        · have h := h.2 c
          refine i_push (n := 0) (cc3 c189_92) zl_0 ?_
          refine p_lc (ls' := []) c189_93 rfl rfl ?_
          exact p_ri (cct c189_93 rfl) trivial h
      · have h := h.2 c
        refine sw_c (n := (-4)) rr.1 zl_m4 (by decide) (fun c => ?_) (fun c => ?_)
        · have h := h.1 c
          refine p_ild (cc3 c189_72) rfl ?_
          refine p_ild (cc3 c189_73) rfl ?_
          refine i_icmp (c' := x3 ≤ x2) (cc3 c189_74) (iz_le rr.2.2 rr.2.1) (fun c => ?_) (fun c => ?_)
          · have h := h.1 c
            refine i_push (n := 0) (cc3 c189_81) zl_0 ?_
            refine p_lc (ls' := []) c189_82 rfl rfl ?_
            exact p_ri (cct c189_82 rfl) trivial h
          · have h := h.2 c
            refine i_push (n := 1) (cc3 c189_77) zl_1 ?_
            refine p_goto (cc3 c189_78) ?_
            refine p_lc (ls' := []) c189_82 rfl rfl ?_
            exact p_ri (cct c189_82 rfl) trivial h
        · have h := h.2 c
          refine sw_c (n := (-3)) rr.1 zl_m3 (by decide) (fun c => ?_) (fun c => ?_)
          · have h := h.1 c
            refine p_ild (cc3 c189_102) rfl ?_
            refine p_ild (cc3 c189_103) rfl ?_
            refine i_op (z := wr (x2 * x3)) (cc3 c189_104) (iz_mul.trans (iz_of _).symm) ?_
            exact p_ri (cc3 c189_105) trivial h
          · have h := h.2 c
            refine sw_c (n := (-2)) rr.1 zl_m2 (by decide) (fun c => ?_) (fun c => ?_)
            · have h := h.1 c
              refine p_ild (cc3 c189_58) rfl ?_
              refine i_if (c' := x2 = 0) (cc3 c189_59) (c_eq0 rr.2.1) (fun c => ?_) (fun c => ?_)
              · have h := h.1 c
                refine p_lc (ls' := []) c189_70 rfl rfl ?_
                refine i_push (n := 0) (cct c189_70 rfl) zl_0 ?_
                exact p_ri (cct c189_71 rfl) trivial h
              · have h := h.2 c
                refine p_ild (cc3 c189_62) rfl ?_
                refine i_if (c' := x3 = 0) (cc3 c189_63) (c_eq0 rr.2.2) (fun c => ?_) (fun c => ?_)
                · have h := h.1 c
                  refine p_lc (ls' := []) c189_70 rfl rfl ?_
                  refine i_push (n := 0) (cct c189_70 rfl) zl_0 ?_
                  exact p_ri (cct c189_71 rfl) trivial h
                · have h := h.2 c
                  refine i_push (n := 1) (cc3 c189_66) zl_1 ?_
                  refine p_goto (cc3 c189_67) ?_
                  refine p_lc (ls' := []) c189_71 rfl rfl ?_
                  exact p_ri (cct c189_71 rfl) trivial h
            · have h := h.2 c
              refine sw_c (n := (-1)) rr.1 zl_m1 (by decide) (fun c => ?_) (fun c => ?_)
              · have h := h.1 c
                refine p_ild (cc3 c189_44) rfl ?_
                refine i_if (c' := x2 = 0) (cc3 c189_45) (c_eq0 rr.2.1) (fun c => ?_) (fun c => ?_)
                · have h := h.1 c
                  refine p_ild (cc3 c189_48) rfl ?_
                  refine i_if (c' := x3 = 0) (cc3 c189_49) (c_eq0 rr.2.2) (fun c => ?_) (fun c => ?_)
                  · have h := h.1 c
                    refine i_push (n := 0) (cc3 c189_56) zl_0 ?_
                    refine p_lc (ls' := []) c189_57 rfl rfl ?_
                    exact p_ri (cct c189_57 rfl) trivial h
                  · have h := h.2 c
                    refine p_lc (ls' := []) c189_52 rfl rfl ?_
                    refine i_push (n := 1) (cct c189_52 rfl) zl_1 ?_
                    refine p_goto (cc3 c189_53) ?_
                    exact p_ri (cct c189_57 rfl) trivial h
                · have h := h.2 c
                  refine p_lc (ls' := []) c189_52 rfl rfl ?_
                  refine i_push (n := 1) (cct c189_52 rfl) zl_1 ?_
                  refine p_goto (cc3 c189_53) ?_
                  exact p_ri (cct c189_57 rfl) trivial h
              · have h := h.2 c
                refine sw_d ?_
                refine p_ild (cc3 c189_102) rfl ?_
                refine p_ild (cc3 c189_103) rfl ?_
                refine i_op (z := wr (x2 * x3)) (cc3 c189_104) (iz_mul.trans (iz_of _).symm) ?_
                exact p_ri (cc3 c189_105) trivial h
theorem S189 {d : Nat} (hd : 1 ≤ d) {m : Nat} {Φ : (Nat → Nat → Int32) → xM} (hΦ : MLaw m Φ) {A : Nat → Int → Int} (hR : RG A) {x1 x2 x3 : Int} (rr : Rg x1 ∧ Rg x2 ∧ Rg x3) : xev xT d 189 [.ref m, .int (iz x1), .int (iz x2), .int (iz x3)] (Φ (mI A)) (some (.int (iz (m_both x1 x2 x3)))) (Φ (mI A)) := by
  refine xev_i (D := 0) hd (Nat.le_of_ble_eq_true rfl) (fun d hd => V189_0 hd hΦ hR rr ?_)

  have e : ∀ z : Int, m_both x1 x2 x3 = z → (some (Value.int (iz z)) = some (.int (iz (m_both x1 x2 x3))) ∧ Φ (mI A) = Φ (mI A)) := fun z hz => ⟨by rw [hz], rfl⟩
  repeat' (first | refine And.intro ?_ ?_ | intro _)
  all_goals (try (refine congrArg (fun z => some (Value.int (iz z))) ?_))
  all_goals (try rfl)
  all_goals (unfold m_both; (repeat' split) <;> first | omega | rfl | exact (bI_t (by omega)).symm | exact (bI_f (by omega)).symm | (exfalso; omega))
theorem V188_0 {d : Nat} (hd : 1 ≤ d) {Q : Option Value → xM → Prop} {m : Nat} {Φ : (Nat → Nat → Int32) → xM} (hΦ : MLaw m Φ) {A : Nat → Int → Int} (hR : RG A) {x1 : Int} (rr : Rg x1) (h : (Rg (2 * (A 0 43))) ∧ (Rg ((2 * (A 0 43)) + x1)) ∧ wpE (xT 188) (xev xT d) Q (14, [(0, .ref m), (2, .int (iz ((2 * (A 0 43)) + x1))), (3, .int (iz 0)), (4, .int (iz 0))], [], Φ (mI A))) : wpE (xT 188) (xev xT d) Q (0, [(0, .ref m), (1, .int (iz x1))], [], Φ (mI A)) := by
  refine i_push (n := 2) (cc3 c188_0) zl_2 ?_
  refine p_ald (cc3 c188_1) rfl ?_
  refine n_geti hΦ (v := A 0 43) (cc3 c188_2) (ji := 43) rfl rfl ?_
  obtain ⟨g1, h⟩ := h
  refine (fun _ : Rg (2 * (A 0 43)) => i_mul (cc3 c188_5) ?_) g1
  refine p_ild (cc3 c188_6) rfl ?_
  obtain ⟨g2, h⟩ := h
  refine (fun _ : Rg ((2 * (A 0 43)) + x1) => i_add (cc3 c188_7) ?_) g2
  refine p_ist (ls' := [(2, .int (iz ((2 * (A 0 43)) + x1))), (0, .ref m), (1, .int (iz x1))]) (cc3 c188_8) (by decide) rfl ?_
  refine i_push (n := 0) (cc3 c188_9) zl_0 ?_
  refine p_ist (ls' := [(3, .int (iz 0)), (2, .int (iz ((2 * (A 0 43)) + x1))), (0, .ref m), (1, .int (iz x1))]) (cc3 c188_10) (by decide) rfl ?_
  refine i_push (n := 0) (cc3 c188_11) zl_0 ?_
  refine p_ist (ls' := [(4, .int (iz 0)), (3, .int (iz 0)), (2, .int (iz ((2 * (A 0 43)) + x1))), (0, .ref m), (1, .int (iz x1))]) (cc3 c188_12) (by decide) rfl ?_
  exact p_lc (ls' := [(0, .ref m), (2, .int (iz ((2 * (A 0 43)) + x1))), (3, .int (iz 0)), (4, .int (iz 0))]) c188_14 rfl rfl h
theorem V188_14 {d : Nat} (hd : 1 ≤ d) {Q : Option Value → xM → Prop} {m : Nat} {Φ : (Nat → Nat → Int32) → xM} (hΦ : MLaw m Φ) {A : Nat → Int → Int} (hR : RG A) {x2 x3 x4 : Int} (rr : Rg x2 ∧ Rg x3 ∧ Rg x4) (h : (0 ≤ x2 ∧ x2 < 12) ∧ ((((A 33 x2) ≤ x4) → Q (some (.int (iz (A 38 0)))) (Φ (mI A))) ∧ (¬ ((A 33 x2) ≤ x4) → (Rg (160 * x2)) ∧ (Rg ((160 * x2) + x4)) ∧ (0 ≤ ((160 * x2) + x4) ∧ ((160 * x2) + x4) < 1920) ∧ ((((A 34 ((160 * x2) + x4)) < 0) → ((((A 34 ((160 * x2) + x4)) = (-3)) → (Rg (x3 - 1)) ∧ ((((A 34 ((160 * x2) + x4)) = (-9)) → (0 ≤ (x3 - 1) ∧ (x3 - 1) < 161) ∧ (Rg (x4 + 1)) ∧ wpE (xT 188) (xev xT d) Q (14, [(0, .ref m), (2, .int (iz x2)), (3, .int (iz x3)), (4, .int (iz (x4 + 1)))], [], Φ (mI (UA A 38 (x3 - 1) (wr (-(A 38 (x3 - 1)))))))) ∧ (¬ ((A 34 ((160 * x2) + x4)) = (-9)) → (0 ≤ (x3 - 1) ∧ (x3 - 1) < 161) ∧ ((((A 38 (x3 - 1)) = 0) → (Rg (x4 + 1)) ∧ wpE (xT 188) (xev xT d) Q (14, [(0, .ref m), (2, .int (iz x2)), (3, .int (iz x3)), (4, .int (iz (x4 + 1)))], [], Φ (mI (UA A 38 (x3 - 1) 1)))) ∧ (¬ ((A 38 (x3 - 1)) = 0) → (Rg (x4 + 1)) ∧ wpE (xT 188) (xev xT d) Q (14, [(0, .ref m), (2, .int (iz x2)), (3, .int (iz x3)), (4, .int (iz (x4 + 1)))], [], Φ (mI (UA A 38 (x3 - 1) 0)))))))) ∧ (¬ ((A 34 ((160 * x2) + x4)) = (-3)) → ((((A 34 ((160 * x2) + x4)) = (-9)) → (Rg (x3 - 1)) ∧ ((((A 34 ((160 * x2) + x4)) = (-9)) → (0 ≤ (x3 - 1) ∧ (x3 - 1) < 161) ∧ (Rg (x4 + 1)) ∧ wpE (xT 188) (xev xT d) Q (14, [(0, .ref m), (2, .int (iz x2)), (3, .int (iz x3)), (4, .int (iz (x4 + 1)))], [], Φ (mI (UA A 38 (x3 - 1) (wr (-(A 38 (x3 - 1)))))))) ∧ (¬ ((A 34 ((160 * x2) + x4)) = (-9)) → (0 ≤ (x3 - 1) ∧ (x3 - 1) < 161) ∧ ((((A 38 (x3 - 1)) = 0) → (Rg (x4 + 1)) ∧ wpE (xT 188) (xev xT d) Q (14, [(0, .ref m), (2, .int (iz x2)), (3, .int (iz x3)), (4, .int (iz (x4 + 1)))], [], Φ (mI (UA A 38 (x3 - 1) 1)))) ∧ (¬ ((A 38 (x3 - 1)) = 0) → (Rg (x4 + 1)) ∧ wpE (xT 188) (xev xT d) Q (14, [(0, .ref m), (2, .int (iz x2)), (3, .int (iz x3)), (4, .int (iz (x4 + 1)))], [], Φ (mI (UA A 38 (x3 - 1) 0)))))))) ∧ (¬ ((A 34 ((160 * x2) + x4)) = (-9)) → (Rg (x3 - 1)) ∧ (Rg ((x3 - 1) - 1)) ∧ (0 ≤ ((x3 - 1) - 1) ∧ ((x3 - 1) - 1) < 161) ∧ (0 ≤ (x3 - 1) ∧ (x3 - 1) < 161) ∧ (Rg (x4 + 1)) ∧ wpE (xT 188) (xev xT d) Q (14, [(0, .ref m), (2, .int (iz x2)), (3, .int (iz (x3 - 1))), (4, .int (iz (x4 + 1)))], [], Φ (mI (UA A 38 ((x3 - 1) - 1) (m_both (A 34 ((160 * x2) + x4)) (A 38 ((x3 - 1) - 1)) (A 38 (x3 - 1))))))))))) ∧ (¬ ((A 34 ((160 * x2) + x4)) < 0) → (((10000 ≤ (A 34 ((160 * x2) + x4))) → (Rg ((A 34 ((160 * x2) + x4)) - 10000)) ∧ (0 ≤ ((A 34 ((160 * x2) + x4)) - 10000) ∧ ((A 34 ((160 * x2) + x4)) - 10000) < 6) ∧ (0 ≤ x3 ∧ x3 < 161) ∧ (Rg (x3 + 1)) ∧ (Rg (x4 + 1)) ∧ wpE (xT 188) (xev xT d) Q (14, [(0, .ref m), (2, .int (iz x2)), (3, .int (iz (x3 + 1))), (4, .int (iz (x4 + 1)))], [], Φ (mI (UA A 38 x3 (A 37 ((A 34 ((160 * x2) + x4)) - 10000)))))) ∧ (¬ (10000 ≤ (A 34 ((160 * x2) + x4))) → (0 ≤ x3 ∧ x3 < 161) ∧ (Rg (x3 + 1)) ∧ (Rg (x4 + 1)) ∧ wpE (xT 188) (xev xT d) Q (14, [(0, .ref m), (2, .int (iz x2)), (3, .int (iz (x3 + 1))), (4, .int (iz (x4 + 1)))], [], Φ (mI (UA A 38 x3 (A 34 ((160 * x2) + x4)))))))))))) : wpE (xT 188) (xev xT d) Q (14, [(0, .ref m), (2, .int (iz x2)), (3, .int (iz x3)), (4, .int (iz x4))], [], Φ (mI A)) := by
  refine p_ild (cct c188_14 rfl) rfl ?_
  refine p_ald (cc3 c188_16) rfl ?_
  refine pm_getp hΦ (cc3 c188_17) (c := 33) rfl (by decide) ?_
  refine p_ild (cc3 c188_20) rfl ?_
  obtain ⟨g1, h⟩ := h
  refine n_aldi hΦ (c := 33) (n := 12) (ni := 12) (cc3 c188_21) (by decide) rfl rfl rfl (by decide) g1 (v := A 33 x2) rfl ?_
  refine i_icmp (c' := (A 33 x2) ≤ x4) (cc3 c188_22) (iz_le (hR 33 x2) rr.2.2) (fun c => ?_) (fun c => ?_)
  · have h := h.1 c
    refine p_ald (cc3 c188_178) rfl ?_
    refine pm_getp hΦ (cc3 c188_179) (c := 38) rfl (by decide) ?_
    refine i_push (n := 0) (cc3 c188_182) zl_0 ?_
    refine n_aldi hΦ (c := 38) (n := 161) (ni := 161) (cc3 c188_183) (by decide) rfl rfl rfl (by decide) (by decide) (v := A 38 0) rfl ?_
    exact p_ri (cc3 c188_184) trivial h
  · have h := h.2 c
    refine p_ald (cc3 c188_25) rfl ?_
    refine pm_getp hΦ (cc3 c188_26) (c := 34) rfl (by decide) ?_
    refine i_push (n := 160) (cc3 c188_29) zl_160 ?_
    refine p_ild (cc3 c188_32) rfl ?_
    obtain ⟨g2, h⟩ := h
    refine (fun _ : Rg (160 * x2) => i_mul (cc3 c188_33) ?_) g2
    refine p_ild (cc3 c188_34) rfl ?_
    obtain ⟨g3, h⟩ := h
    refine (fun _ : Rg ((160 * x2) + x4) => i_add (cc3 c188_36) ?_) g3
    obtain ⟨g4, h⟩ := h
    refine n_aldi hΦ (c := 34) (n := 1920) (ni := 1920) (cc3 c188_37) (by decide) rfl rfl rfl (by decide) g4 (v := A 34 ((160 * x2) + x4)) rfl ?_
    refine p_ist (ls' := [(5, .int (iz (A 34 ((160 * x2) + x4)))), (0, .ref m), (2, .int (iz x2)), (3, .int (iz x3)), (4, .int (iz x4))]) (cc3 c188_38) (by decide) rfl ?_
    refine p_ild (cc3 c188_40) rfl ?_
    refine i_if (c' := (A 34 ((160 * x2) + x4)) < 0) (cc3 c188_42) (c_lt0 (hR 34 ((160 * x2) + x4))) (fun c => ?_) (fun c => ?_)
    · have h := h.1 c
      refine p_ild (cc3 c188_81) rfl ?_
      refine i_push (n := (-3)) (cc3 c188_83) zl_m3 ?_
      refine i_icmp (c' := (A 34 ((160 * x2) + x4)) = (-3)) (cc3 c188_85) (iz_inj (hR 34 ((160 * x2) + x4)) (by decide)) (fun c => ?_) (fun c => ?_)
      · have h := h.1 c
        refine p_lc (ls' := [(0, .ref m), (2, .int (iz x2)), (3, .int (iz x3)), (4, .int (iz x4)), (5, .int (iz (A 34 ((160 * x2) + x4))))]) c188_95 rfl rfl ?_
        refine p_ald (cct c188_95 rfl) rfl ?_
        refine pm_getp hΦ (cc3 c188_96) (c := 38) rfl (by decide) ?_
        refine p_ild (cc3 c188_99) rfl ?_
        refine i_push (n := 1) (cc3 c188_100) zl_1 ?_
        obtain ⟨g5, h⟩ := h
        refine (fun _ : Rg (x3 - 1) => i_sub (cc3 c188_101) ?_) g5
        refine p_ild (cc3 c188_102) rfl ?_
        refine i_push (n := (-9)) (cc3 c188_104) zl_m9 ?_
        refine i_icmp (c' := (A 34 ((160 * x2) + x4)) = (-9)) (cc3 c188_106) (iz_inj (hR 34 ((160 * x2) + x4)) (by decide)) (fun c => ?_) (fun c => ?_)
        · have h := h.1 c
          refine p_ald (cc3 c188_109) rfl ?_
          refine pm_getp hΦ (cc3 c188_110) (c := 38) rfl (by decide) ?_
          refine p_ild (cc3 c188_113) rfl ?_
          refine i_push (n := 1) (cc3 c188_114) zl_1 ?_
          refine (fun _ : Rg (x3 - 1) => i_sub (cc3 c188_115) ?_) g5
          obtain ⟨g6, h⟩ := h
          refine n_aldi hΦ (c := 38) (n := 161) (ni := 161) (cc3 c188_116) (by decide) rfl rfl rfl (by decide) g6 (v := A 38 (x3 - 1)) rfl ?_
          refine i_un (z := wr (-(A 38 (x3 - 1)))) (cc3 c188_117) (iz_neg.trans (iz_of _).symm) ?_
          refine p_goto (cc3 c188_118) ?_
          refine p_lc (ls' := [(0, .ref m), (2, .int (iz x2)), (3, .int (iz x3)), (4, .int (iz x4))]) c188_137 rfl rfl ?_
          refine id (α := Rg (wr (-(A 38 (x3 - 1)))) → _) (fun _ => ?_) rg_wr; refine n_asti hΦ (c := 38) (n := 161) (ni := 161) (hv := rfl) (cct c188_137 rfl) (by decide) rfl rfl rfl (by decide) g6 ?_
          refine p_goto (cc3 c188_138) ?_
          obtain ⟨g7, h⟩ := h
          refine (fun _ : Rg (x4 + 1) => i_iinc (n := 1) (y := x4 + 1) (ls' := [(4, .int (iz (x4 + 1))), (0, .ref m), (2, .int (iz x2)), (3, .int (iz x3))]) (cct c188_172 rfl) (by decide) rfl zl_1 (by first | rfl | omega) rfl ?_) g7
          refine p_goto (cc3 c188_175) ?_
          exact p_lc (ls' := [(0, .ref m), (2, .int (iz x2)), (3, .int (iz x3)), (4, .int (iz (x4 + 1)))]) c188_14 rfl rfl h
        · have h := h.2 c
          refine p_ald (cc3 c188_121) rfl ?_
          refine pm_getp hΦ (cc3 c188_122) (c := 38) rfl (by decide) ?_
          refine p_ild (cc3 c188_125) rfl ?_
          refine i_push (n := 1) (cc3 c188_126) zl_1 ?_
          refine (fun _ : Rg (x3 - 1) => i_sub (cc3 c188_127) ?_) g5
          obtain ⟨g6, h⟩ := h
          refine n_aldi hΦ (c := 38) (n := 161) (ni := 161) (cc3 c188_128) (by decide) rfl rfl rfl (by decide) g6 (v := A 38 (x3 - 1)) rfl ?_
          refine i_if (c' := (A 38 (x3 - 1)) = 0) (cc3 c188_129) (c_eq0 (hR 38 (x3 - 1))) (fun c => ?_) (fun c => ?_)
          · have h := h.1 c
            refine i_push (n := 1) (cc3 c188_132) zl_1 ?_
            refine p_goto (cc3 c188_133) ?_
            refine p_lc (ls' := [(0, .ref m), (2, .int (iz x2)), (3, .int (iz x3)), (4, .int (iz x4))]) c188_137 rfl rfl ?_
            refine id (α := Rg 1 → _) (fun _ => ?_) (by decide); refine n_asti hΦ (c := 38) (n := 161) (ni := 161) (hv := rfl) (cct c188_137 rfl) (by decide) rfl rfl rfl (by decide) g6 ?_
            refine p_goto (cc3 c188_138) ?_
            obtain ⟨g7, h⟩ := h
            refine (fun _ : Rg (x4 + 1) => i_iinc (n := 1) (y := x4 + 1) (ls' := [(4, .int (iz (x4 + 1))), (0, .ref m), (2, .int (iz x2)), (3, .int (iz x3))]) (cct c188_172 rfl) (by decide) rfl zl_1 (by first | rfl | omega) rfl ?_) g7
            refine p_goto (cc3 c188_175) ?_
            exact p_lc (ls' := [(0, .ref m), (2, .int (iz x2)), (3, .int (iz x3)), (4, .int (iz (x4 + 1)))]) c188_14 rfl rfl h
          · have h := h.2 c
            refine i_push (n := 0) (cc3 c188_136) zl_0 ?_
            refine p_lc (ls' := [(0, .ref m), (2, .int (iz x2)), (3, .int (iz x3)), (4, .int (iz x4))]) c188_137 rfl rfl ?_
            refine id (α := Rg 0 → _) (fun _ => ?_) (by decide); refine n_asti hΦ (c := 38) (n := 161) (ni := 161) (hv := rfl) (cct c188_137 rfl) (by decide) rfl rfl rfl (by decide) g6 ?_
            refine p_goto (cc3 c188_138) ?_
            obtain ⟨g7, h⟩ := h
            refine (fun _ : Rg (x4 + 1) => i_iinc (n := 1) (y := x4 + 1) (ls' := [(4, .int (iz (x4 + 1))), (0, .ref m), (2, .int (iz x2)), (3, .int (iz x3))]) (cct c188_172 rfl) (by decide) rfl zl_1 (by first | rfl | omega) rfl ?_) g7
            refine p_goto (cc3 c188_175) ?_
            exact p_lc (ls' := [(0, .ref m), (2, .int (iz x2)), (3, .int (iz x3)), (4, .int (iz (x4 + 1)))]) c188_14 rfl rfl h
      · have h := h.2 c
        refine p_ild (cc3 c188_88) rfl ?_
        refine i_push (n := (-9)) (cc3 c188_90) zl_m9 ?_
        refine i_icmp (c' := (A 34 ((160 * x2) + x4)) = (-9)) (cc3 c188_92) (iz_inj (hR 34 ((160 * x2) + x4)) (by decide)) (fun c => ?_) (fun c => ?_)
        · have h := h.1 c
          refine p_lc (ls' := [(0, .ref m), (2, .int (iz x2)), (3, .int (iz x3)), (4, .int (iz x4)), (5, .int (iz (A 34 ((160 * x2) + x4))))]) c188_95 rfl rfl ?_
          refine p_ald (cct c188_95 rfl) rfl ?_
          refine pm_getp hΦ (cc3 c188_96) (c := 38) rfl (by decide) ?_
          refine p_ild (cc3 c188_99) rfl ?_
          refine i_push (n := 1) (cc3 c188_100) zl_1 ?_
          obtain ⟨g5, h⟩ := h
          refine (fun _ : Rg (x3 - 1) => i_sub (cc3 c188_101) ?_) g5
          refine p_ild (cc3 c188_102) rfl ?_
          refine i_push (n := (-9)) (cc3 c188_104) zl_m9 ?_
          refine i_icmp (c' := (A 34 ((160 * x2) + x4)) = (-9)) (cc3 c188_106) (iz_inj (hR 34 ((160 * x2) + x4)) (by decide)) (fun c => ?_) (fun c => ?_)
          · have h := h.1 c
            refine p_ald (cc3 c188_109) rfl ?_
            refine pm_getp hΦ (cc3 c188_110) (c := 38) rfl (by decide) ?_
            refine p_ild (cc3 c188_113) rfl ?_
            refine i_push (n := 1) (cc3 c188_114) zl_1 ?_
            refine (fun _ : Rg (x3 - 1) => i_sub (cc3 c188_115) ?_) g5
            obtain ⟨g6, h⟩ := h
            refine n_aldi hΦ (c := 38) (n := 161) (ni := 161) (cc3 c188_116) (by decide) rfl rfl rfl (by decide) g6 (v := A 38 (x3 - 1)) rfl ?_
            refine i_un (z := wr (-(A 38 (x3 - 1)))) (cc3 c188_117) (iz_neg.trans (iz_of _).symm) ?_
            refine p_goto (cc3 c188_118) ?_
            refine p_lc (ls' := [(0, .ref m), (2, .int (iz x2)), (3, .int (iz x3)), (4, .int (iz x4))]) c188_137 rfl rfl ?_
            refine id (α := Rg (wr (-(A 38 (x3 - 1)))) → _) (fun _ => ?_) rg_wr; refine n_asti hΦ (c := 38) (n := 161) (ni := 161) (hv := rfl) (cct c188_137 rfl) (by decide) rfl rfl rfl (by decide) g6 ?_
            refine p_goto (cc3 c188_138) ?_
            obtain ⟨g7, h⟩ := h
            refine (fun _ : Rg (x4 + 1) => i_iinc (n := 1) (y := x4 + 1) (ls' := [(4, .int (iz (x4 + 1))), (0, .ref m), (2, .int (iz x2)), (3, .int (iz x3))]) (cct c188_172 rfl) (by decide) rfl zl_1 (by first | rfl | omega) rfl ?_) g7
            refine p_goto (cc3 c188_175) ?_
            exact p_lc (ls' := [(0, .ref m), (2, .int (iz x2)), (3, .int (iz x3)), (4, .int (iz (x4 + 1)))]) c188_14 rfl rfl h
          · have h := h.2 c
            refine p_ald (cc3 c188_121) rfl ?_
            refine pm_getp hΦ (cc3 c188_122) (c := 38) rfl (by decide) ?_
            refine p_ild (cc3 c188_125) rfl ?_
            refine i_push (n := 1) (cc3 c188_126) zl_1 ?_
            refine (fun _ : Rg (x3 - 1) => i_sub (cc3 c188_127) ?_) g5
            obtain ⟨g6, h⟩ := h
            refine n_aldi hΦ (c := 38) (n := 161) (ni := 161) (cc3 c188_128) (by decide) rfl rfl rfl (by decide) g6 (v := A 38 (x3 - 1)) rfl ?_
            refine i_if (c' := (A 38 (x3 - 1)) = 0) (cc3 c188_129) (c_eq0 (hR 38 (x3 - 1))) (fun c => ?_) (fun c => ?_)
            · have h := h.1 c
              refine i_push (n := 1) (cc3 c188_132) zl_1 ?_
              refine p_goto (cc3 c188_133) ?_
              refine p_lc (ls' := [(0, .ref m), (2, .int (iz x2)), (3, .int (iz x3)), (4, .int (iz x4))]) c188_137 rfl rfl ?_
              refine id (α := Rg 1 → _) (fun _ => ?_) (by decide); refine n_asti hΦ (c := 38) (n := 161) (ni := 161) (hv := rfl) (cct c188_137 rfl) (by decide) rfl rfl rfl (by decide) g6 ?_
              refine p_goto (cc3 c188_138) ?_
              obtain ⟨g7, h⟩ := h
              refine (fun _ : Rg (x4 + 1) => i_iinc (n := 1) (y := x4 + 1) (ls' := [(4, .int (iz (x4 + 1))), (0, .ref m), (2, .int (iz x2)), (3, .int (iz x3))]) (cct c188_172 rfl) (by decide) rfl zl_1 (by first | rfl | omega) rfl ?_) g7
              refine p_goto (cc3 c188_175) ?_
              exact p_lc (ls' := [(0, .ref m), (2, .int (iz x2)), (3, .int (iz x3)), (4, .int (iz (x4 + 1)))]) c188_14 rfl rfl h
            · have h := h.2 c
              refine i_push (n := 0) (cc3 c188_136) zl_0 ?_
              refine p_lc (ls' := [(0, .ref m), (2, .int (iz x2)), (3, .int (iz x3)), (4, .int (iz x4))]) c188_137 rfl rfl ?_
              refine id (α := Rg 0 → _) (fun _ => ?_) (by decide); refine n_asti hΦ (c := 38) (n := 161) (ni := 161) (hv := rfl) (cct c188_137 rfl) (by decide) rfl rfl rfl (by decide) g6 ?_
              refine p_goto (cc3 c188_138) ?_
              obtain ⟨g7, h⟩ := h
              refine (fun _ : Rg (x4 + 1) => i_iinc (n := 1) (y := x4 + 1) (ls' := [(4, .int (iz (x4 + 1))), (0, .ref m), (2, .int (iz x2)), (3, .int (iz x3))]) (cct c188_172 rfl) (by decide) rfl zl_1 (by first | rfl | omega) rfl ?_) g7
              refine p_goto (cc3 c188_175) ?_
              exact p_lc (ls' := [(0, .ref m), (2, .int (iz x2)), (3, .int (iz x3)), (4, .int (iz (x4 + 1)))]) c188_14 rfl rfl h
        · have h := h.2 c
          obtain ⟨g5, h⟩ := h
          refine (fun _ : Rg (x3 - 1) => i_iinc (n := (-1)) (y := x3 - 1) (ls' := [(3, .int (iz (x3 - 1))), (5, .int (iz (A 34 ((160 * x2) + x4)))), (0, .ref m), (2, .int (iz x2)), (4, .int (iz x4))]) (cc3 c188_141) (by decide) rfl zl_m1 (by first | rfl | omega) rfl ?_) g5
          refine p_ald (cc3 c188_144) rfl ?_
          refine pm_getp hΦ (cc3 c188_145) (c := 38) rfl (by decide) ?_
          refine p_ild (cc3 c188_148) rfl ?_
          refine i_push (n := 1) (cc3 c188_149) zl_1 ?_
          obtain ⟨g6, h⟩ := h
          refine (fun _ : Rg ((x3 - 1) - 1) => i_sub (cc3 c188_150) ?_) g6
          refine p_ald (cc3 c188_151) rfl ?_
          refine p_ild (cc3 c188_152) rfl ?_
          refine p_ald (cc3 c188_154) rfl ?_
          refine pm_getp hΦ (cc3 c188_155) (c := 38) rfl (by decide) ?_
          refine p_ild (cc3 c188_158) rfl ?_
          refine i_push (n := 1) (cc3 c188_159) zl_1 ?_
          refine (fun _ : Rg ((x3 - 1) - 1) => i_sub (cc3 c188_160) ?_) g6
          obtain ⟨g7, h⟩ := h
          refine n_aldi hΦ (c := 38) (n := 161) (ni := 161) (cc3 c188_161) (by decide) rfl rfl rfl (by decide) g7 (v := A 38 ((x3 - 1) - 1)) rfl ?_
          refine p_ald (cc3 c188_162) rfl ?_
          refine pm_getp hΦ (cc3 c188_163) (c := 38) rfl (by decide) ?_
          refine p_ild (cc3 c188_166) rfl ?_
          obtain ⟨g8, h⟩ := h
          refine n_aldi hΦ (c := 38) (n := 161) (ni := 161) (cc3 c188_167) (by decide) rfl rfl rfl (by decide) g8 (v := A 38 (x3 - 1)) rfl ?_
          refine p_callV (cc3 c188_168) (Nat.le_of_ble_eq_true rfl) rfl rfl (Nat.le_of_ble_eq_true rfl) (ml_kd hΦ) (S189 (Nat.le_trans (by decide) hd) hΦ hR ⟨(hR 34 ((160 * x2) + x4)), (hR 38 ((x3 - 1) - 1)), (hR 38 (x3 - 1))⟩) ?_
          refine id (α := Rg (m_both (A 34 ((160 * x2) + x4)) (A 38 ((x3 - 1) - 1)) (A 38 (x3 - 1))) → _) (fun _ => ?_) rg_both; refine n_asti hΦ (c := 38) (n := 161) (ni := 161) (hv := rfl) (cc3 c188_171) (by decide) rfl rfl rfl (by decide) g7 ?_
          refine p_lc (ls' := [(0, .ref m), (2, .int (iz x2)), (3, .int (iz (x3 - 1))), (4, .int (iz x4))]) c188_172 rfl rfl ?_
          obtain ⟨g9, h⟩ := h
          refine (fun _ : Rg (x4 + 1) => i_iinc (n := 1) (y := x4 + 1) (ls' := [(4, .int (iz (x4 + 1))), (0, .ref m), (2, .int (iz x2)), (3, .int (iz (x3 - 1)))]) (cct c188_172 rfl) (by decide) rfl zl_1 (by first | rfl | omega) rfl ?_) g9
          refine p_goto (cc3 c188_175) ?_
          exact p_lc (ls' := [(0, .ref m), (2, .int (iz x2)), (3, .int (iz (x3 - 1))), (4, .int (iz (x4 + 1)))]) c188_14 rfl rfl h
    · have h := h.2 c
      refine p_ald (cc3 c188_45) rfl ?_
      refine pm_getp hΦ (cc3 c188_46) (c := 38) rfl (by decide) ?_
      refine p_ild (cc3 c188_49) rfl ?_
      refine p_ild (cc3 c188_50) rfl ?_
      refine i_push (n := 10000) (cc3 c188_52) zl_10000 ?_
      refine i_icmp (c' := 10000 ≤ (A 34 ((160 * x2) + x4))) (cc3 c188_55) (iz_le (by decide) (hR 34 ((160 * x2) + x4))) (fun c => ?_) (fun c => ?_)
      · have h := h.1 c
        refine p_ald (cc3 c188_63) rfl ?_
        refine pm_getp hΦ (cc3 c188_64) (c := 37) rfl (by decide) ?_
        refine p_ild (cc3 c188_67) rfl ?_
        refine i_push (n := 10000) (cc3 c188_69) zl_10000 ?_
        obtain ⟨g5, h⟩ := h
        refine (fun _ : Rg ((A 34 ((160 * x2) + x4)) - 10000) => i_sub (cc3 c188_72) ?_) g5
        obtain ⟨g6, h⟩ := h
        refine n_aldi hΦ (c := 37) (n := 6) (ni := 6) (cc3 c188_73) (by decide) rfl rfl rfl (by decide) g6 (v := A 37 ((A 34 ((160 * x2) + x4)) - 10000)) rfl ?_
        refine p_lc (ls' := [(0, .ref m), (2, .int (iz x2)), (3, .int (iz x3)), (4, .int (iz x4))]) c188_74 rfl rfl ?_
        obtain ⟨g7, h⟩ := h
        refine id (α := Rg (A 37 ((A 34 ((160 * x2) + x4)) - 10000)) → _) (fun _ => ?_) (hR 37 ((A 34 ((160 * x2) + x4)) - 10000)); refine n_asti hΦ (c := 38) (n := 161) (ni := 161) (hv := rfl) (cct c188_74 rfl) (by decide) rfl rfl rfl (by decide) g7 ?_
        obtain ⟨g8, h⟩ := h
        refine (fun _ : Rg (x3 + 1) => i_iinc (n := 1) (y := x3 + 1) (ls' := [(3, .int (iz (x3 + 1))), (0, .ref m), (2, .int (iz x2)), (4, .int (iz x4))]) (cc3 c188_75) (by decide) rfl zl_1 (by first | rfl | omega) rfl ?_) g8
        refine p_goto (cc3 c188_78) ?_
        refine p_lc (ls' := [(0, .ref m), (2, .int (iz x2)), (3, .int (iz (x3 + 1))), (4, .int (iz x4))]) c188_172 rfl rfl ?_
        obtain ⟨g9, h⟩ := h
        refine (fun _ : Rg (x4 + 1) => i_iinc (n := 1) (y := x4 + 1) (ls' := [(4, .int (iz (x4 + 1))), (0, .ref m), (2, .int (iz x2)), (3, .int (iz (x3 + 1)))]) (cct c188_172 rfl) (by decide) rfl zl_1 (by first | rfl | omega) rfl ?_) g9
        refine p_goto (cc3 c188_175) ?_
        exact p_lc (ls' := [(0, .ref m), (2, .int (iz x2)), (3, .int (iz (x3 + 1))), (4, .int (iz (x4 + 1)))]) c188_14 rfl rfl h
      · have h := h.2 c
        refine p_ild (cc3 c188_58) rfl ?_
        refine p_goto (cc3 c188_60) ?_
        refine p_lc (ls' := [(0, .ref m), (2, .int (iz x2)), (3, .int (iz x3)), (4, .int (iz x4))]) c188_74 rfl rfl ?_
        obtain ⟨g5, h⟩ := h
        refine id (α := Rg (A 34 ((160 * x2) + x4)) → _) (fun _ => ?_) (hR 34 ((160 * x2) + x4)); refine n_asti hΦ (c := 38) (n := 161) (ni := 161) (hv := rfl) (cct c188_74 rfl) (by decide) rfl rfl rfl (by decide) g5 ?_
        obtain ⟨g6, h⟩ := h
        refine (fun _ : Rg (x3 + 1) => i_iinc (n := 1) (y := x3 + 1) (ls' := [(3, .int (iz (x3 + 1))), (0, .ref m), (2, .int (iz x2)), (4, .int (iz x4))]) (cc3 c188_75) (by decide) rfl zl_1 (by first | rfl | omega) rfl ?_) g6
        refine p_goto (cc3 c188_78) ?_
        refine p_lc (ls' := [(0, .ref m), (2, .int (iz x2)), (3, .int (iz (x3 + 1))), (4, .int (iz x4))]) c188_172 rfl rfl ?_
        obtain ⟨g7, h⟩ := h
        refine (fun _ : Rg (x4 + 1) => i_iinc (n := 1) (y := x4 + 1) (ls' := [(4, .int (iz (x4 + 1))), (0, .ref m), (2, .int (iz x2)), (3, .int (iz (x3 + 1)))]) (cct c188_172 rfl) (by decide) rfl zl_1 (by first | rfl | omega) rfl ?_) g7
        refine p_goto (cc3 c188_175) ?_
        exact p_lc (ls' := [(0, .ref m), (2, .int (iz x2)), (3, .int (iz (x3 + 1))), (4, .int (iz (x4 + 1)))]) c188_14 rfl rfl h

theorem stL_x {f : Int → Int} {x : Int} {s : List Int} (h : stL f (x :: s).length = x :: s) : f s.length = x ∧ stL f s.length = s := by
  have h' : f s.length :: stL f s.length = x :: s := h
  injection h' with h1 h2
  exact ⟨h1, h2⟩
theorem stL_p {f g : Int → Int} {v : Int} {s : List Int} (h : stL f s.length = s) (h1 : g s.length = v) (h2 : ∀ i : Int, ¬ i = s.length → g i = f i) : stL g (v :: s).length = v :: s := by
  show g s.length :: stL g s.length = _
  rw [h1]
  congr 1
  rw [← stL_c s.length (fun i hi => (h2 i (by omega)).symm)]
  exact h
theorem L188 {d : Nat} (hd : 1 ≤ d) {Q : Option Value → xM → Prop} {m : Nat} {Φ : (Nat → Nat → Int32) → xM} (hΦ : MLaw m Φ) {A0 : Nat → Int → Int} {p R : Int} (hp : 0 ≤ p ∧ p < 12) (hl : A0 33 p ≤ 160)
    (hQ : ∀ A', RG A' → Fr [38] [] A0 A' → Rg R → Q (some (.int (iz R))) (Φ (mI A'))) :
    ∀ (n k : Nat) (s : List Int) (A : Nat → Int → Int), RG A → Fr [38] [] A0 A → (k : Int) + n = A0 33 p → stL (A 38) s.length = s → s.length ≤ k → vsM (upL (fun i => A0 34 (160 * p + i)) n k) s.length = some 1 → (∀ w ∈ upL (fun i => A0 34 (160 * p + i)) n k, -9 ≤ w ∧ w < 10006) → (evs (A0 37) (upL (fun i => A0 34 (160 * p + i)) n k) s).headD 0 = R → wpE (xT 188) (xev xT d) Q (14, [(0, .ref m), (2, .int (iz p)), (3, .int (iz s.length)), (4, .int (iz k))], [], Φ (mI A)) := by
  intro n
  induction n with
  | zero =>
    intro k s A hR hF hk hs hsk hv hw he
    have hs1 : s.length = 1 := by injection hv
    have e33 : A 33 p = A0 33 p := by rw [hF.1 33 (by decide) (by decide)]
    refine V188_14 hd hΦ hR (by omega) ⟨hp, fun _ => ?_, fun c => absurd (show A 33 p ≤ k by omega) c⟩
    match s, hs1, hs, he with
    | [x], _, hs, he =>
      have h1 := (stL_x hs).1
      have e : A 38 0 = R := by rw [← he]; exact h1
      have := hQ A hR hF (by rw [← e]; exact hR _ _)
      rw [e]; exact this
  | succ n ih =>
    intro k s A hR hF hk hs hsk hv hw he
    have e33 : A 33 p = A0 33 p := by rw [hF.1 33 (by decide) (by decide)]
    have e34 : A 34 (160 * p + k) = A0 34 (160 * p + k) := by rw [hF.1 34 (by decide) (by decide)]
    have e37 : A 37 = A0 37 := hF.1 37 (by decide) (by decide)
    have hw1 := hw (A0 34 (160 * p + k)) (by show _ ∈ _ :: _; simp)
    have hw2 : ∀ w ∈ upL (fun i => A0 34 (160 * p + i)) n (k + 1), -9 ≤ w ∧ w < 10006 := fun w h => hw w (by show _ ∈ _ :: _; simp [h])
    have nx : ∀ (s' : List Int) (A' : Nat → Int → Int), RG A' → Fr [38] [] A0 A' → stL (A' 38) s'.length = s' → s'.length ≤ k + 1 → vsM (upL (fun i => A0 34 (160 * p + i)) n (k + 1)) s'.length = some 1 → (evs (A0 37) (upL (fun i => A0 34 (160 * p + i)) n (k + 1)) s').headD 0 = R → ∀ x3 : Int, x3 = s'.length → wpE (xT 188) (xev xT d) Q (14, [(0, .ref m), (2, .int (iz p)), (3, .int (iz x3)), (4, .int (iz ((k : Int) + 1)))], [], Φ (mI A')) := fun s' A' z1 z2 z3 z4 z5 z6 x3 hx => by
      rw [hx]; exact ih (k + 1) s' A' z1 z2 (by omega) z3 z4 z5 hw2 z6
    have hr38 : ∀ (j v : Int), Fr [38] [] A0 (UA A 38 j v) := fun j v => hF.row (by decide) (by decide)
    have g1 : Rg ((k : Int) + 1) := ⟨by omega, by omega⟩
    have g0 : Rg (160 * p) ∧ Rg (160 * p + k) ∧ 0 ≤ 160 * p + (k : Int) ∧ 160 * p + (k : Int) < 1920 := ⟨⟨by omega, by omega⟩, ⟨by omega, by omega⟩, by omega, by omega⟩
    change vsM (A0 34 (160 * p + k) :: upL (fun i => A0 34 (160 * p + i)) n (k + 1)) s.length = some 1 at hv
    change (evs (A0 37) (A0 34 (160 * p + k) :: upL (fun i => A0 34 (160 * p + i)) n (k + 1)) s).headD 0 = R at he
    unfold vsM at hv
    unfold evs at he
    refine V188_14 hd hΦ hR (by omega) ⟨hp, fun c => absurd c (by omega), fun _ => ⟨g0.1, g0.2.1, g0.2.2, ?_⟩⟩
    rw [e34]
    generalize A0 34 (160 * p + k) = w at hv he hw1 ⊢
    refine ⟨fun c0 => ?_, fun c0 => ?_⟩
    · rw [if_neg (by omega)] at hv he
      have un : (w = -3 ∨ w = -9) → (∀ x s', s = x :: s' → (0 ≤ ((s.length : Int) - 1) ∧ ((s.length : Int) - 1) < 161) ∧ A 38 ((s.length : Int) - 1) = x ∧ ∀ v, v = evU w x → wpE (xT 188) (xev xT d) Q (14, [(0, .ref m), (2, .int (iz p)), (3, .int (iz s.length)), (4, .int (iz ((k : Int) + 1)))], [], Φ (mI (UA A 38 ((s.length : Int) - 1) v)))) ∧ ∃ x s', s = x :: s' := fun hu => by
        rw [if_pos hu] at hv he
        have hl1 : 1 ≤ s.length := by apply Classical.byContradiction; intro q; rw [if_neg q] at hv; cases hv
        rw [if_pos hl1] at hv
        refine ⟨fun x s' es => ?_, ?_⟩
        · subst es
          obtain ⟨t1, t2⟩ := stL_x hs
          have el : ((x :: s').length : Int) - 1 = s'.length := by simp
          rw [el]
          refine ⟨⟨by omega, by simp at hsk; omega⟩, t1, fun v hv2 => ?_⟩
          refine nx (evU w x :: s') _ (rg_UA hR (by rw [hv2]; exact rg_evU)) (hr38 _ _) (stL_p t2 (by rw [UA_eq, hv2]) (fun i hi => UA_j hi)) (by simp at hsk ⊢; omega) hv he _ (by simp)
        · match s, hl1 with
          | x :: s', _ => exact ⟨x, s', rfl⟩
      have gL : Rg ((s.length : Int) - 1) := ⟨by omega, by omega⟩
      refine ⟨fun c1 => ⟨gL, fun c2 => absurd c2 (by omega), fun _ => ?_⟩, fun c1 => ⟨fun c2 => ⟨gL, fun _ => ?_, fun c3 => absurd c2 c3⟩, fun c2 => ?_⟩⟩
      · obtain ⟨h1, x, s', es⟩ := un (Or.inl c1)
        obtain ⟨h2, h3, h4⟩ := h1 x s' es
        refine ⟨h2, fun c => ⟨g1, h4 1 ?_⟩, fun c => ⟨g1, h4 0 ?_⟩⟩
        · unfold evU; rw [if_neg (by omega), bI_t (by rw [← h3]; exact c)]
        · unfold evU; rw [if_neg (by omega), bI_f (by rw [← h3]; exact c)]
      · obtain ⟨h1, x, s', es⟩ := un (Or.inr c2)
        obtain ⟨h2, h3, h4⟩ := h1 x s' es
        exact ⟨h2, g1, h4 _ (by unfold evU; rw [if_pos c2, h3])⟩
      · rw [if_neg (by omega)] at hv he
        have hl2 : 2 ≤ s.length := by apply Classical.byContradiction; intro q; rw [if_neg q] at hv; cases hv
        rw [if_pos hl2] at hv
        match s, hl2, hs, hsk, hv, he, gL with
        | y :: x :: s', _, hs, hsk, hv, he, gL =>
          obtain ⟨t1, t2⟩ := stL_x hs
          obtain ⟨t3, t4⟩ := stL_x t2
          have el : ((y :: x :: s').length : Int) - 1 = (x :: s').length := by simp
          have el2 : ((x :: s').length : Int) - 1 = s'.length := by simp
          rw [el, el2]
          refine ⟨by rw [el] at gL; exact gL, ⟨by omega, by simp at hsk; omega⟩, ⟨by omega, by simp at hsk; omega⟩, ⟨by simp; omega, by simp at hsk ⊢; omega⟩, g1, ?_⟩
          rw [t1, t3]
          refine nx (m_both w x y :: s') _ (rg_UA hR rg_both) (hr38 _ _) (stL_p t4 UA_eq (fun i hi => UA_j hi)) (by simp at hsk ⊢; omega) hv he _ (by simp)
    · rw [if_pos (by omega)] at hv he
      have psh : ∀ v, v = (if w < 10000 then w else A0 37 (w - 10000)) → Rg v → (0 ≤ (s.length : Int) ∧ (s.length : Int) < 161) ∧ (Rg ((s.length : Int) + 1)) ∧ (Rg ((k : Int) + 1)) ∧ wpE (xT 188) (xev xT d) Q (14, [(0, .ref m), (2, .int (iz p)), (3, .int (iz ((s.length : Int) + 1))), (4, .int (iz ((k : Int) + 1)))], [], Φ (mI (UA A 38 s.length v))) := fun v hv2 hrv => by
        refine ⟨⟨by omega, by omega⟩, ⟨by omega, by omega⟩, g1, ?_⟩
        rw [← hv2] at he
        exact nx (v :: s) _ (rg_UA hR hrv) (hr38 _ _) (stL_p hs UA_eq (fun i hi => UA_j hi)) (by simp; omega) hv he _ (by simp)
      refine ⟨fun c1 => ⟨⟨by omega, by omega⟩, ⟨by omega, by omega⟩, ?_⟩, fun c1 => ?_⟩
      · have := psh (A 37 (w - 10000)) (by rw [if_neg (by omega), e37]) (hR _ _)
        exact this
      · exact psh w (by rw [if_pos (by omega)]) ⟨by omega, by omega⟩
theorem S188 {d : Nat} (hd : 2 ≤ d) {m : Nat} {Φ : (Nat → Nat → Int32) → xM} (hΦ : MLaw m Φ) {A : Nat → Int → Int} (hR : RG A) {x1 : Int} (rr : Rg x1) (hp : (0 ≤ A 0 43 ∧ A 0 43 ≤ 5) ∧ (0 ≤ x1 ∧ x1 ≤ 1) ∧ (WkOK A (2 * A 0 43 + x1))) : ∃ (r : Int) (A' : Nat → Int → Int), xev xT d 188 [.ref m, .int (iz x1)] (Φ (mI A)) (some (.int (iz r))) (Φ (mI A')) ∧ Rg r ∧ RG A' ∧ (Fr [38] [] A A' ∧ r = evv (A 37) (rowL A (2 * A 0 43 + x1))) := by
  refine xev_g (i := 188) (as := [.ref m, .int (iz x1)]) (σ := Φ (mI A)) (Q := fun r_ σ_ => ∃ (r : Int) (A' : Nat → Int → Int), r_ = (some (.int (iz r))) ∧ σ_ = Φ (mI A') ∧ Rg r ∧ RG A' ∧ (Fr [38] [] A A' ∧ r = evv (A 37) (rowL A (2 * A 0 43 + x1)))) (D := 1) hd (Nat.le_of_ble_eq_true rfl) (fun r_ σ_ he hq => ?_) (fun d hd => V188_0 hd hΦ hR rr ?_)
  · obtain ⟨r, A', rfl, rfl, hq⟩ := hq
    exact ⟨r, A', he, hq⟩

  obtain ⟨p1, p2, p3, p4, p5⟩ := hp
  refine ⟨⟨by omega, by omega⟩, ⟨by omega, by omega⟩, ?_⟩
  have e : (A 33 (2 * A 0 43 + x1)).toNat + (0 : Nat) = (A 33 (2 * A 0 43 + x1)).toNat := rfl
  exact L188 hd hΦ (p := 2 * A 0 43 + x1) (R := evv (A 37) (rowL A (2 * A 0 43 + x1))) ⟨by omega, by omega⟩ p3.2 (fun A' h1 h2 h3 => ⟨_, A', rfl, rfl, h3, h1, h2, rfl⟩) (A 33 (2 * A 0 43 + x1)).toNat 0 [] A hR Fr.rf (by omega) rfl (Nat.le_refl 0) p4 p5 rfl
def m_fct (A : Nat → Int → Int) (k : Int) : Int → Int := fun j => if j = 0 then A 22 k + A 18 k else if j = 1 then A 15 k else if j = 2 then A 13 k else if j = 3 then A 14 k else if j = 4 then A 25 k else A 11 k
theorem V187_0 {d : Nat} (hd : 3 ≤ d) {Q : Option Value → xM → Prop} {m : Nat} {Φ : (Nat → Nat → Int32) → xM} (hΦ : MLaw m Φ) {A : Nat → Int → Int} (hR : RG A) {x1 x2 : Int} (rr : Rg x1 ∧ Rg x2) (h : (0 ≤ A 0 13 ∧ A 0 13 ≤ 8) ∧ ((¬ ((0 ≤ x1 ∧ x1 ≤ A 0 13 - 1) ∧ 0 ≤ A 20 x1) → Q (some (.long (-4611686018427387904))) (Φ (mI A))) ∧ (((0 ≤ x1 ∧ x1 ≤ A 0 13 - 1) ∧ 0 ≤ A 20 x1) → ((¬ (0 ≤ x2 ∧ x2 ≤ 1) → Q (some (.long (-4611686018427387904))) (Φ (mI A))) ∧ ((0 ≤ x2 ∧ x2 ≤ 1) → (0 ≤ x1 ∧ x1 < 8) ∧ (Rg ((A 22 x1) + (A 18 x1))) ∧ (0 ≤ (A 0 43) ∧ (A 0 43) ≤ 5) ∧ (0 ≤ x2 ∧ x2 ≤ 1) ∧ (WkOK (UA (UA (UA (UA (UA (UA A 37 0 ((A 22 x1) + (A 18 x1))) 37 1 (A 15 x1)) 37 2 (A 13 x1)) 37 3 (A 14 x1)) 37 4 (A 25 x1)) 37 5 (A 11 x1)) (2 * (A 0 43) + x2)) ∧ (∀ (r_1 : Int) (A_1 : Nat → Int → Int), Rg r_1 → RG A_1 → (Fr [38] [] (UA (UA (UA (UA (UA (UA A 37 0 ((A 22 x1) + (A 18 x1))) 37 1 (A 15 x1)) 37 2 (A 13 x1)) 37 3 (A 14 x1)) 37 4 (A 25 x1)) 37 5 (A 11 x1)) A_1 ∧ r_1 = evv ((UA (UA (UA (UA (UA (UA A 37 0 ((A 22 x1) + (A 18 x1))) 37 1 (A 15 x1)) 37 2 (A 13 x1)) 37 3 (A 14 x1)) 37 4 (A 25 x1)) 37 5 (A 11 x1)) 37) (rowL (UA (UA (UA (UA (UA (UA A 37 0 ((A 22 x1) + (A 18 x1))) 37 1 (A 15 x1)) 37 2 (A 13 x1)) 37 3 (A 14 x1)) 37 4 (A 25 x1)) 37 5 (A 11 x1)) (2 * (UA (UA (UA (UA (UA (UA A 37 0 ((A 22 x1) + (A 18 x1))) 37 1 (A 15 x1)) 37 2 (A 13 x1)) 37 3 (A 14 x1)) 37 4 (A 25 x1)) 37 5 (A 11 x1)) 0 43 + x2))) → Q (some (.long ((iz r_1).toInt64))) (Φ (mI A_1)))))))) : wpE (xT 187) (xev xT d) Q (0, [(0, .ref m), (1, .int (iz x1)), (2, .int (iz x2))], [], Φ (mI A)) := by
  refine p_ald (cc3 c187_0) rfl ?_
  refine p_ild (cc3 c187_1) rfl ?_
  obtain ⟨g1, h⟩ := h
  refine p_callV (cc3 c187_2) (Nat.le_of_ble_eq_true rfl) rfl rfl (Nat.le_of_ble_eq_true rfl) (ml_kd hΦ) (S160 (Nat.le_trans (by decide) hd) hΦ hR rr.1 g1) ?_
  refine i_ifB (cc3 c187_5) (fun c => ?_) (fun c => ?_)
  · have h := h.1 c
    refine p_lc (ls' := []) c187_18 rfl rfl ?_
    refine p_push (cct c187_18 rfl) ?_
    exact p_rl (cc3 c187_21) h
  · have h := h.2 c
    refine p_ald (cc3 c187_8) rfl ?_
    refine p_ild (cc3 c187_9) rfl ?_
    refine i_push (n := 0) (cc3 c187_10) zl_0 ?_
    refine i_push (n := 1) (cc3 c187_11) zl_1 ?_
    refine p_callV (cc3 c187_12) (Nat.le_of_ble_eq_true rfl) rfl rfl (Nat.le_of_ble_eq_true rfl) (ml_kd hΦ) (S129 (Nat.le_trans (by decide) hd) hΦ hR ⟨rr.2, (by decide), (by decide)⟩) ?_
    refine i_ifB (cc3 c187_15) (fun c => ?_) (fun c => ?_)
    · have h := h.1 c
      refine p_lc (ls' := []) c187_18 rfl rfl ?_
      refine p_push (cct c187_18 rfl) ?_
      exact p_rl (cc3 c187_21) h
    · have h := h.2 c
      refine p_ald (cc3 c187_22) rfl ?_
      refine pm_getp hΦ (cc3 c187_23) (c := 37) rfl (by decide) ?_
      refine i_push (n := 0) (cc3 c187_26) zl_0 ?_
      refine p_ald (cc3 c187_27) rfl ?_
      refine pm_getp hΦ (cc3 c187_28) (c := 22) rfl (by decide) ?_
      refine p_ild (cc3 c187_31) rfl ?_
      obtain ⟨g2, h⟩ := h
      refine n_aldi hΦ (c := 22) (n := 8) (ni := 8) (cc3 c187_32) (by decide) rfl rfl rfl (by decide) g2 (v := A 22 x1) rfl ?_
      refine p_ald (cc3 c187_33) rfl ?_
      refine pm_getp hΦ (cc3 c187_34) (c := 18) rfl (by decide) ?_
      refine p_ild (cc3 c187_37) rfl ?_
      refine n_aldi hΦ (c := 18) (n := 8) (ni := 8) (cc3 c187_38) (by decide) rfl rfl rfl (by decide) g2 (v := A 18 x1) rfl ?_
      obtain ⟨g3, h⟩ := h
      refine (fun _ : Rg ((A 22 x1) + (A 18 x1)) => i_add (cc3 c187_39) ?_) g3
      refine id (α := Rg ((A 22 x1) + (A 18 x1)) → _) (fun _ => ?_) g3; (first | refine n_asti hΦ (c := 37) (n := 6) (ni := 6) (hv := rfl) (cc3 c187_40) (by decide) rfl rfl rfl (by decide) (by decide) ?_)
      refine p_ald (cc3 c187_41) rfl ?_
      refine pm_getp hΦ (cc3 c187_42) (c := 37) rfl (by decide) ?_
      refine i_push (n := 1) (cc3 c187_45) zl_1 ?_
      refine p_ald (cc3 c187_46) rfl ?_
      refine pm_getp hΦ (cc3 c187_47) (c := 15) rfl (by decide) ?_
      refine p_ild (cc3 c187_50) rfl ?_
      refine n_aldi hΦ (c := 15) (n := 8) (ni := 8) (cc3 c187_51) (by decide) rfl rfl rfl (by decide) g2 (v := A 15 x1) (by first | rfl | exact UA_eq | simp [UA]) ?_
      refine id (α := Rg (A 15 x1) → _) (fun _ => ?_) (hR 15 x1); (first | refine n_asti hΦ (c := 37) (n := 6) (ni := 6) (hv := rfl) (cc3 c187_52) (by decide) rfl rfl rfl (by decide) (by decide) ?_)
      refine p_ald (cc3 c187_53) rfl ?_
      refine pm_getp hΦ (cc3 c187_54) (c := 37) rfl (by decide) ?_
      refine i_push (n := 2) (cc3 c187_57) zl_2 ?_
      refine p_ald (cc3 c187_58) rfl ?_
      refine pm_getp hΦ (cc3 c187_59) (c := 13) rfl (by decide) ?_
      refine p_ild (cc3 c187_62) rfl ?_
      refine n_aldi hΦ (c := 13) (n := 8) (ni := 8) (cc3 c187_63) (by decide) rfl rfl rfl (by decide) g2 (v := A 13 x1) (by first | rfl | exact UA_eq | simp [UA]) ?_
      refine id (α := Rg (A 13 x1) → _) (fun _ => ?_) (hR 13 x1); (first | refine n_asti hΦ (c := 37) (n := 6) (ni := 6) (hv := rfl) (cc3 c187_64) (by decide) rfl rfl rfl (by decide) (by decide) ?_)
      refine p_ald (cc3 c187_65) rfl ?_
      refine pm_getp hΦ (cc3 c187_66) (c := 37) rfl (by decide) ?_
      refine i_push (n := 3) (cc3 c187_69) zl_3 ?_
      refine p_ald (cc3 c187_70) rfl ?_
      refine pm_getp hΦ (cc3 c187_71) (c := 14) rfl (by decide) ?_
      refine p_ild (cc3 c187_74) rfl ?_
      refine n_aldi hΦ (c := 14) (n := 8) (ni := 8) (cc3 c187_75) (by decide) rfl rfl rfl (by decide) g2 (v := A 14 x1) (by first | rfl | exact UA_eq | simp [UA]) ?_
      refine id (α := Rg (A 14 x1) → _) (fun _ => ?_) (hR 14 x1); (first | refine n_asti hΦ (c := 37) (n := 6) (ni := 6) (hv := rfl) (cc3 c187_76) (by decide) rfl rfl rfl (by decide) (by decide) ?_)
      refine p_ald (cc3 c187_77) rfl ?_
      refine pm_getp hΦ (cc3 c187_78) (c := 37) rfl (by decide) ?_
      refine i_push (n := 4) (cc3 c187_81) zl_4 ?_
      refine p_ald (cc3 c187_82) rfl ?_
      refine pm_getp hΦ (cc3 c187_83) (c := 25) rfl (by decide) ?_
      refine p_ild (cc3 c187_86) rfl ?_
      refine n_aldi hΦ (c := 25) (n := 8) (ni := 8) (cc3 c187_87) (by decide) rfl rfl rfl (by decide) g2 (v := A 25 x1) (by first | rfl | exact UA_eq | simp [UA]) ?_
      refine id (α := Rg (A 25 x1) → _) (fun _ => ?_) (hR 25 x1); (first | refine n_asti hΦ (c := 37) (n := 6) (ni := 6) (hv := rfl) (cc3 c187_88) (by decide) rfl rfl rfl (by decide) (by decide) ?_)
      refine p_ald (cc3 c187_89) rfl ?_
      refine pm_getp hΦ (cc3 c187_90) (c := 37) rfl (by decide) ?_
      refine i_push (n := 5) (cc3 c187_93) zl_5 ?_
      refine p_ald (cc3 c187_94) rfl ?_
      refine pm_getp hΦ (cc3 c187_95) (c := 11) rfl (by decide) ?_
      refine p_ild (cc3 c187_98) rfl ?_
      refine n_aldi hΦ (c := 11) (n := 8) (ni := 8) (cc3 c187_99) (by decide) rfl rfl rfl (by decide) g2 (v := A 11 x1) (by first | rfl | exact UA_eq | simp [UA]) ?_
      refine id (α := Rg (A 11 x1) → _) (fun _ => ?_) (hR 11 x1); (first | refine n_asti hΦ (c := 37) (n := 6) (ni := 6) (hv := rfl) (cc3 c187_100) (by decide) rfl rfl rfl (by decide) (by decide) ?_)
      refine p_ald (cc3 c187_101) rfl ?_
      refine p_ild (cc3 c187_102) rfl ?_
      obtain ⟨g4, h⟩ := h
      obtain ⟨g5, h⟩ := h
      obtain ⟨g6, h⟩ := h
      obtain ⟨r_1, A_1, he, hr_1, hR_1, hp_1⟩ := S188 (A := UA (UA (UA (UA (UA (UA A 37 0 ((A 22 x1) + (A 18 x1))) 37 1 (A 15 x1)) 37 2 (A 13 x1)) 37 3 (A 14 x1)) 37 4 (A 25 x1)) 37 5 (A 11 x1)) (Nat.le_trans (by decide) hd) hΦ (rg_UA (rg_UA (rg_UA (rg_UA (rg_UA (rg_UA hR g3) (hR 15 x1)) (hR 13 x1)) (hR 14 x1)) (hR 25 x1)) (hR 11 x1)) rr.2 ⟨g4, g5, g6⟩
      have h := h r_1 A_1 hr_1 hR_1 hp_1
      refine p_callV (cc3 c187_103) (Nat.le_of_ble_eq_true rfl) rfl rfl (Nat.le_of_ble_eq_true rfl) (ml_kd hΦ) he ?_
      refine p_i2l (cc3 c187_106) ?_
      exact p_rl (cc3 c187_107) h
theorem S187 {d : Nat} (hd : 4 ≤ d) {m : Nat} {Φ : (Nat → Nat → Int32) → xM} (hΦ : MLaw m Φ) {A : Nat → Int → Int} (hR : RG A) {x1 x2 : Int} (rr : Rg x1 ∧ Rg x2) (hp : (KiltsOK A) ∧ (0 ≤ A 0 43 ∧ A 0 43 ≤ 5) ∧ (∀ q : Int, 0 ≤ q → q ≤ 1 → WkOK A (2 * A 0 43 + q))) : ∃ (r : Int64) (A' : Nat → Int → Int), xev xT d 187 [.ref m, .int (iz x1), .int (iz x2)] (Φ (mI A)) (some (.long r)) (Φ (mI A')) ∧ RG A' ∧ (Fr [37, 38] [] A A' ∧ (((0 ≤ x1 ∧ x1 ≤ A 0 13 - 1) ∧ 0 ≤ A 20 x1) ∧ (0 ≤ x2 ∧ x2 ≤ 1) → r = (iz (evv (m_fct A x1) (rowL A (2 * A 0 43 + x2)))).toInt64) ∧ (¬ (((0 ≤ x1 ∧ x1 ≤ A 0 13 - 1) ∧ 0 ≤ A 20 x1) ∧ (0 ≤ x2 ∧ x2 ≤ 1)) → r = -4611686018427387904)) := by
  refine xev_g (i := 187) (as := [.ref m, .int (iz x1), .int (iz x2)]) (σ := Φ (mI A)) (Q := fun r_ σ_ => ∃ (r : Int64) (A' : Nat → Int → Int), r_ = (some (.long r)) ∧ σ_ = Φ (mI A') ∧ RG A' ∧ (Fr [37, 38] [] A A' ∧ (((0 ≤ x1 ∧ x1 ≤ A 0 13 - 1) ∧ 0 ≤ A 20 x1) ∧ (0 ≤ x2 ∧ x2 ≤ 1) → r = (iz (evv (m_fct A x1) (rowL A (2 * A 0 43 + x2)))).toInt64) ∧ (¬ (((0 ≤ x1 ∧ x1 ≤ A 0 13 - 1) ∧ 0 ≤ A 20 x1) ∧ (0 ≤ x2 ∧ x2 ≤ 1)) → r = -4611686018427387904))) (D := 3) hd (Nat.le_of_ble_eq_true rfl) (fun r_ σ_ he hq => ?_) (fun d hd => V187_0 hd hΦ hR rr ?_)
  · obtain ⟨r, A', rfl, rfl, hq⟩ := hq
    exact ⟨r, A', he, hq⟩

  obtain ⟨p1, p2, p3⟩ := hp
  refine ⟨p1.1, fun c => ⟨_, A, rfl, rfl, hR, Fr.rf, fun q => absurd q.1 c, fun _ => rfl⟩, fun c => ⟨fun c2 => ⟨_, A, rfl, rfl, hR, Fr.rf, fun q => absurd q.2 c2, fun _ => rfl⟩, fun c2 => ?_⟩⟩
  have hk := p1.2 x1 c.1.1 (by omega)
  have hL := hk.2 c.2
  have hKb := hk.1.b
  have hrow : ∀ A' : Nat → Int → Int, A' 33 = A 33 → A' 34 = A 34 → ∀ o, rowL A' o = rowL A o := fun A' h1 h2 o => by unfold rowL; rw [h1, h2]
  have hB := p1.1
  refine ⟨⟨by omega, by omega⟩, ⟨by omega, by omega⟩, p2, c2, p3 x2 c2.1 c2.2, fun r1 A1 hr1 hR1 hp1 => ?_⟩
  refine ⟨_, A1, rfl, rfl, hR1, ?_, fun _ => ?_, fun q => absurd ⟨c, c2⟩ q⟩
  · refine Fr.tr ?_ (hp1.1.mono (by simp) (by simp))
    exact (((((Fr.rf.row (by decide) (by decide)).row (by decide) (by decide)).row (by decide) (by decide)).row (by decide) (by decide)).row (by decide) (by decide)).row (by decide) (by decide)
  · have h2 := hp1.2
    rw [h2]
    refine congrArg (fun z => (iz z).toInt64) ?_
    unfold evv
    refine congrArg (fun z : List Int => z.headD 0) ?_
    refine evs_c (fun j j0 j6 => ?_) _ _ (fun w hw => (p3 x2 c2.1 c2.2).2.2 w hw |>.2)
    rcases (show j = 0 ∨ j = 1 ∨ j = 2 ∨ j = 3 ∨ j = 4 ∨ j = 5 by omega) with e | e | e | e | e | e <;> subst e <;> rfl
