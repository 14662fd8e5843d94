def prR (t : Int → Int) (n p : Int) : Rr := rdE t n 41 0 0 p
abbrev pOK (t : Int → Int) (n p : Int) : Prop := (prR t n p).1 = true ∧ tkC t n (prR t n p).2.1 = 59
/-- what part leaves: the row of the code o, in the model's codes -/
def PartP (t : Int → Int) (n p r : Int) (A A' : Nat → Int → Int) : Prop := Fr [33, 34, 35, 36] [46, 47, 48, 49, 52, 53, 54] A A' ∧ (∀ i : Int, ¬ i = A 0 55 → A' 33 i = A 33 i) ∧ (∀ i : Int, i < 160 * A 0 55 ∨ 160 * A 0 55 + 160 ≤ i → A' 34 i = A 34 i) ∧
  (pOK t n p → r = 1 ∧ A' 0 46 = tkE t n (prR t n p).2.1 ∧ A' 33 (A 0 55) = ((prR t n p).2.2.length : Int) ∧ stL (fun i => A' 34 (160 * A 0 55 + i)) (prR t n p).2.2.length = ((prR t n p).2.2.map cm).reverse) ∧ (¬ pOK t n p → r = 0 ∧ A' 0 49 = tkB t n (prR t n p).2.1)

theorem L178 {d : Nat} (hd : 3 ≤ d) {Q : Option Value → xM → Prop} {m : Nat} {Φ : (Nat → Nat → Int32) → xM} (hΦ : MLaw m Φ) {A0 A : Nat → Int → Int} {t : Int → Int} {n o p : Int} (hT : TapeB t) (hn : n ≤ 160) (ho : 0 ≤ o ∧ o < 12) (h : PS A0 t n o A [] [] (A 36) 0 p) (hz : A 36 0 = 0)
    (hB : ∀ A1 q S out F op, ¬ pOK t n p → q = (prR t n p).2.1 → PB A0 t n o A1 S out F op (tkE t n q) → A1 0 49 = tkB t n q → Q (some (.int (iz 0))) (Φ (mI A1)))
    (hE : ∀ A1 F op, pOK t n p → PB A0 t n o A1 [] ((prR t n p).2.2.map cm).reverse F op (tkE t n (prR t n p).2.1) → Q (some (.int (iz 1))) (Φ (mI A1))) : wpE (xT 178) (xev xT d) Q (36, [(0, .ref m), (1, .int (iz 1)), (2, .int (iz 1))], [], Φ (mI A)) := by
  have hC : Clo t n (fun w x2 S out F op p => ∀ A2, PS A0 t n o A2 S out F op p → wpE (xT 178) (xev xT d) Q (36, [(0, .ref m), (1, .int (iz w)), (2, .int (iz x2))], [], Φ (mI A2))) (fun q => ∀ A1 S out F op, PB A0 t n o A1 S out F op (tkE t n q) → A1 0 49 = tkB t n q → Q (some (.int (iz 0))) (Φ (mI A1))) := by
    refine ⟨?_, ?_, ?_, ?_, ?_, ?_, ?_, ?_⟩
    · intro x2 S out F op p hx hc hB A2 hP
      exact pT0 hd hΦ hP hx hc (hB A2 S out F op hP.1 hP.2.1.1)
    · intro x2 S out F op p w hx hop hc hG A2 hP
      exact pT1 hd hΦ hT hn ho hP hx hop hc hG
    · intro S out F op p hop hc hG A2 hP
      exact pT2 hd hΦ hT hn hP hop hc hG
    · intro x2 S out F op p hx hop hc hG A2 hP
      exact pT3 hd hΦ hT hn hP hx hop hc hG
    · intro x2 S out F op p hx hop hb hc hG A2 hP
      exact pT4 hd hΦ hT hn hP hx hop hb hc hG
    · intro x2 S S' out F op p hx hop hc hS hG A2 hP
      exact pT5 hd hΦ hT hn ho hP hx hop hc hS hG
    · intro x2 S out F op p hx hop hb hc hf hG A2 hP
      exact pT6 hd hΦ hT hn ho hP hx hop hb hc hf hG
    · intro x2 S out F op p hx hop hb hc hB A2 hP
      rcases hc with q | q | q
      · exact pT8 hd hΦ hP hx hb (Or.inl q) (hB A2 S out F op hP.1 hP.2.1.1)
      · exact pT7 hd hΦ hn ho hP hx hop q.1 (fun A1 h1 h2 => ⟨fun z => absurd z q.2, fun _ => hB A1 _ _ _ _ h1 h2⟩)
      · exact pT8 hd hΦ hP hx hb (Or.inr q) (hB A2 S out F op hP.1 hP.2.1.1)
  have hL := LX hC hn 41 0 (by decide) (by decide) 0 p 1 [] [] (A 36) (by decide) (by decide) (Or.inr rfl) (fun _ => ⟨rfl, hz⟩) (fun q => absurd q (by decide)) rfl (fun _ => by decide) ⟨h.2.2.2.1, h.2.2.2.2⟩
  change (¬ (prR t n p).1 = true → _ → _) ∧ ((prR t n p).1 = true → Cnt t n _ 0 0 [] [] (A 36) (prR t n p) → _) at hL
  by_cases c : (prR t n p).1 = true
  · refine hL.2 c ?_ A h
    intro x2 P row F' b1 b2 b3 b4 b5 b6 b7 b8 A2 hP
    have hpa := pop_all (r := 1) (S := []) (P := P) (by decide) b4
    have hcb := cntB_app (S := []) (P := P) b4
    have hco := cntO_app (S := []) (P := P)
    have e0 : cntO [] = 0 := rfl
    have e1 : popS 7 [] = [] := rfl
    have e2 : popR 7 [] = [] := rfl
    have e3 : cntB [] = 0 := rfl
    rw [e1, e2] at hP
    rw [e2] at b5
    by_cases c2 : tkC t n (prR t n p).2.1 = 59
    · refine pT7 hd hΦ hn ho hP b1 ⟨by rw [hco, e0]; omega, b5⟩ c2 (fun A1 h1 h2 => ⟨fun _ => ?_, fun q => absurd (hcb.trans e3) q⟩)
      rw [hpa.1, hpa.2] at h1
      have e4 : P.reverse ++ (([] : List Int).reverse ++ (row.reverse ++ [])) = ((prR t n p).2.2.map cm).reverse := by rw [b2]; simp
      rw [e4] at h1
      exact hE A1 _ _ ⟨c, c2⟩ h1
    · refine pT8 hd hΦ hP b1 (by rw [hcb, e3]; decide) ?_ (hB A2 _ _ _ _ _ (fun q => c2 q.2) rfl hP.1 hP.2.1.1)
      rw [hcb, e3]
      by_cases c3 : tkC t n (prR t n p).2.1 = 41
      · exact Or.inl ⟨c3, rfl⟩
      · refine Or.inr ⟨c3, c2, ?_⟩
        rcases b8 with q | ⟨q1, q2, q3⟩
        · exact Or.inl (sg_lv q)
        · exact Or.inr ⟨(lv_sg q1 (by decide)).2.2.2.2.2 rfl, q3⟩
  · exact hL.1 c (fun A1 S out F op h1 h2 => hB A1 _ S out F op (fun q => c q.1) rfl h1 h2) A h
theorem S178 {d : Nat} (hd : 4 ≤ d) {m : Nat} {Φ : (Nat → Nat → Int32) → xM} (hΦ : MLaw m Φ) {A : Nat → Int → Int} (hR : RG A) (p : Int) (hp : (Cur A (A 1) (A 0 1) p) ∧ (0 ≤ p ∧ p ≤ A 0 1) ∧ (0 ≤ A 0 55 ∧ A 0 55 < 12) ∧ (TapeB (A 1)) ∧ (A 0 1 ≤ 160)) : ∃ (r : Int) (A' : Nat → Int → Int), xev xT d 178 [.ref m] (Φ (mI A)) (some (.int (iz r))) (Φ (mI A')) ∧ Rg r ∧ RG A' ∧ (PartP (A 1) (A 0 1) p r A A') := by
  refine xev_g (i := 178) (as := [.ref m]) (σ := Φ (mI A)) (Q := fun r_ σ_ => ∃ (r : Int) (A' : Nat → Int → Int), r_ = (some (.int (iz r))) ∧ σ_ = Φ (mI A') ∧ Rg r ∧ RG A' ∧ (PartP (A 1) (A 0 1) p r A A')) (D := 3) hd (Nat.le_of_ble_eq_true rfl) (fun r_ σ_ he hq => ?_) (fun d hd => V178_0 hd hΦ hR ?_)
  · obtain ⟨r, A', rfl, rfl, hq⟩ := hq
    exact ⟨r, A', he, hq⟩

  obtain ⟨p1, p2, p3, p4, p5⟩ := hp
  refine ⟨p3, ?_⟩
  have hF : Fr [33, 34, 35, 36] [46, 47, 48, 49, 52, 53, 54] A (UA (UA (UA (UA (UA A 0 52 0) 0 53 0) 0 54 0) 33 (A 0 55) 0) 36 0 0) := ((((Fr.rf.fld (by decide)).fld (by decide)).fld (by decide)).row (by decide) (by decide)).row (by decide) (by decide)
  have hPS : PS A (A 1) (A 0 1) (A 0 55) (UA (UA (UA (UA (UA A 0 52 0) 0 53 0) 0 54 0) 33 (A 0 55) 0) 36 0 0) [] [] ((UA (UA (UA (UA (UA A 0 52 0) 0 53 0) 0 54 0) 33 (A 0 55) 0) 36 0 0) 36) 0 p := by
    have e33 : (UA (UA (UA (UA (UA A 0 52 0) 0 53 0) 0 54 0) 33 (A 0 55) 0) 36 0 0) 33 (A 0 55) = 0 := by rw [UA_c (by decide), UA_eq]
    have e52 : (UA (UA (UA (UA (UA A 0 52 0) 0 53 0) 0 54 0) 33 (A 0 55) 0) 36 0 0) 0 52 = 0 := rfl
    refine ⟨⟨rg_UA (rg_UA (rg_UA (rg_UA (rg_UA hR (by decide)) (by decide)) (by decide)) (by decide)) (by decide), hF, fun i hi => ?_, fun i hi => rfl, ⟨rfl, rfl, rfl, p1.2.1⟩, ?_, ?_, rfl, rfl, ?_, ?_, ?_, rfl⟩, p1, ?_, p2⟩
    · rw [UA_c (by decide), UA_j hi]; rfl
    · unfold wts; rw [e52]; rfl
    · unfold puts
      show stL _ ((UA (UA (UA (UA (UA A 0 52 0) 0 53 0) 0 54 0) 33 (A 0 55) 0) 36 0 0) 33 (A 0 55)).toNat = []
      rw [e33]; rfl
    · rw [e52]; decide
    · rw [e33]; decide
    · rw [e33, e52]; have := tkE_b (t := A 1) (n := A 0 1) (p := p) p2.2; omega
    · rw [e33, e52]; omega
  refine L178 hd hΦ p4 p5 p3 hPS rfl ?_ ?_
  · intro A1 q S out F op hno hq h1 h2
    obtain ⟨k1, k2, k3, k4, -⟩ := h1
    exact ⟨0, A1, rfl, rfl, by decide, k1, k2, k3, k4, fun z => absurd z hno, fun _ => ⟨rfl, by rw [h2, hq]⟩⟩
  · intro A1 F op hok h1
    obtain ⟨k1, k2, k3, k4, ⟨k5, k6, k7, k8⟩, k9, k10, -, -, -, k14, -⟩ := h1
    have hlen : (A1 33 (A 0 55)).toNat = (prR (A 1) (A 0 1) p).2.2.length := by
      have := congrArg List.length k10
      unfold puts at this
      rw [stL_len, k7, List.length_reverse, List.length_map] at this
      exact this
    refine ⟨1, A1, rfl, rfl, by decide, k1, k2, k3, k4, fun _ => ⟨rfl, k8, by omega, ?_⟩, fun z => absurd hok z⟩
    rw [← k10]
    unfold puts
    rw [k7, hlen]
abbrev txO (t : Int → Int) (n w p : Int) : Prop := tkC t n p = 200 + w ∧ pOK t n (tkE t n p)
def txF (t : Int → Int) (n w p : Int) : Int := if tkC t n p = 200 + w then (prR t n (tkE t n p)).2.1 else p
def txQ (t : Int → Int) (n : Int) : Nat → Int
  | 0 => 0
  | k + 1 => tkE t n (prR t n (tkE t n (txQ t n k))).2.1
abbrev txA (t : Int → Int) (n : Int) : Prop := txO t n 0 0 ∧ txO t n 1 (txQ t n 1) ∧ tkC t n (txQ t n 2) = 401
def txB (t : Int → Int) (n : Int) : Int := tkB t n (if ¬ txO t n 0 0 then txF t n 0 0 else if ¬ txO t n 1 (txQ t n 1) then txF t n 1 (txQ t n 1) else txQ t n 2)
def txRow (t : Int → Int) (n : Int) (k : Nat) : List Int := (prR t n (tkE t n (txQ t n k))).2.2
def RowIs (A : Nat → Int → Int) (o : Int) (L : List Int) : Prop := A 33 o = (L.length : Int) ∧ stL (fun i => A 34 (160 * o + i)) L.length = (L.map cm).reverse
theorem RowIs.c {A A' : Nat → Int → Int} {o : Int} {L : List Int} (h : RowIs A o L) (hl : (L.length : Int) ≤ 160) (h1 : A' 33 o = A 33 o) (h2 : ∀ i : Int, 160 * o ≤ i → i < 160 * o + 160 → A' 34 i = A 34 i) : RowIs A' o L := by
  refine ⟨h1.trans h.1, ?_⟩
  rw [← h.2]
  exact stL_c _ (fun i hi => h2 _ (by omega) (by omega))
/-- what isText leaves -/
def TextP (A A' : Nat → Int → Int) (r : Int) : Prop := Fr [33, 34, 35, 36] [46, 47, 48, 49, 52, 53, 54, 55] A A' ∧ (∀ i : Int, i < 2 * A 0 42 → A' 33 i = A 33 i) ∧ (∀ i : Int, i < 320 * A 0 42 → A' 34 i = A 34 i) ∧ (txA (A 1) (A 0 1) → r = 1 ∧ ∀ j : Nat, j < 2 → RowIs A' (2 * A 0 42 + j) (txRow (A 1) (A 0 1) j)) ∧ (¬ txA (A 1) (A 0 1) → r = 0 ∧ A' 0 49 = txB (A 1) (A 0 1))
def TI (A0 A : Nat → Int → Int) (k : Nat) : Prop := RG A ∧ Fr [33, 34, 35, 36] [46, 47, 48, 49, 52, 53, 54, 55] A0 A ∧ Cur A (A0 1) (A0 0 1) (txQ (A0 1) (A0 0 1) k) ∧ (0 ≤ txQ (A0 1) (A0 0 1) k ∧ txQ (A0 1) (A0 0 1) k ≤ A0 0 1) ∧ (∀ j : Nat, j < k → txO (A0 1) (A0 0 1) j (txQ (A0 1) (A0 0 1) j) ∧ RowIs A (2 * A0 0 42 + j) (txRow (A0 1) (A0 0 1) j) ∧ ((txRow (A0 1) (A0 0 1) j).length : Int) ≤ 160) ∧ (∀ i : Int, i < 2 * A0 0 42 → A 33 i = A0 33 i) ∧ (∀ i : Int, i < 320 * A0 0 42 → A 34 i = A0 34 i)
theorem V171_0 {d : Nat} (hd : 4 ≤ d) {Q : Option Value → xM → Prop} {m : Nat} {Φ : (Nat → Nat → Int32) → xM} (hΦ : MLaw m Φ) {A : Nat → Int → Int} (hR : RG A) (h : (TapeB ((UA A 0 46 0) 1)) ∧ (0 ≤ (0 : Int)) ∧ ((0 : Int) ≤ (A 0 1)) ∧ ((A 0 1) ≤ 160) ∧ (∀ (A_1 : Nat → Int → Int), RG A_1 → (Fr [] [46, 47, 48, 49] (UA A 0 46 0) A_1 ∧ Cur A_1 ((UA A 0 46 0) 1) ((UA A 0 46 0) 0 1) ((UA A 0 46 0) 0 46)) → wpE (xT 171) (xev xT d) Q (11, [(0, .ref m), (1, .int (iz 0))], [], Φ (mI A_1)))) : wpE (xT 171) (xev xT d) Q (0, [(0, .ref m)], [], Φ (mI A)) := by
  refine p_ald (cc3 c171_0) rfl ?_
  refine i_push (n := 0) (cc3 c171_1) zl_0 ?_
  refine (fun _ : Rg 0 => n_puti hΦ (cc3 c171_2) (ji := 46) rfl ?_) (by decide)
  refine p_ald (cc3 c171_5) rfl ?_
  obtain ⟨g1, h⟩ := h
  obtain ⟨g2, h⟩ := h
  obtain ⟨g3, h⟩ := h
  obtain ⟨g4, h⟩ := h
  obtain ⟨A_1, he, hR_1, hp_1⟩ := S172 (A := UA A 0 46 0) (Nat.le_trans (by decide) hd) hΦ (rg_UA hR (by decide)) ⟨g1, g2, g3, g4⟩
  have h := h A_1 hR_1 hp_1
  refine p_callV (cc3 c171_6) (Nat.le_of_ble_eq_true rfl) rfl rfl (Nat.le_of_ble_eq_true rfl) (ml_kd hΦ) he ?_
  refine i_push (n := 0) (cc3 c171_9) zl_0 ?_
  refine p_ist (ls' := [(1, .int (iz 0)), (0, .ref m)]) (cc3 c171_10) (by decide) rfl ?_
  exact p_lc (ls' := [(0, .ref m), (1, .int (iz 0))]) c171_11 rfl rfl h
theorem V171_11 {d : Nat} (hd : 4 ≤ d) {Q : Option Value → xM → Prop} {m : Nat} {Φ : (Nat → Nat → Int32) → xM} (hΦ : MLaw m Φ) {A : Nat → Int → Int} (hR : RG A) {x1 : Int} (rr : Rg x1) (h : (((2 ≤ x1) → ((((A 0 47) = 0) → Q (some (.int (iz 1))) (Φ (mI A))) ∧ (¬ ((A 0 47) = 0) → Q (some (.int (iz 0))) (Φ (mI A))))) ∧ (¬ (2 ≤ x1) → ((¬ (A 0 47 = 3 ∧ A 0 48 = x1) → Q (some (.int (iz 0))) (Φ (mI A))) ∧ ((A 0 47 = 3 ∧ A 0 48 = x1) → (TapeB (A 1)) ∧ (0 ≤ A 0 46) ∧ (A 0 46 ≤ A 0 1) ∧ (A 0 1 ≤ 160) ∧ (∀ (A_1 : Nat → Int → Int), RG A_1 → (Fr [] [46, 47, 48, 49] A A_1 ∧ Cur A_1 (A 1) (A 0 1) (A 0 46)) → (Rg (2 * (A_1 0 42))) ∧ (Rg ((2 * (A_1 0 42)) + x1)) ∧ (Cur (UA A_1 0 55 ((2 * (A_1 0 42)) + x1)) ((UA A_1 0 55 ((2 * (A_1 0 42)) + x1)) 1) ((A_1 0 1)) (A 0 46)) ∧ (0 ≤ (A 0 46) ∧ (A 0 46) ≤ (A_1 0 1)) ∧ (0 ≤ ((2 * (A_1 0 42)) + x1) ∧ ((2 * (A_1 0 42)) + x1) < 12) ∧ (TapeB ((UA A_1 0 55 ((2 * (A_1 0 42)) + x1)) 1)) ∧ ((A_1 0 1) ≤ 160) ∧ (∀ (r_2 : Int) (A_2 : Nat → Int → Int), Rg r_2 → RG A_2 → (PartP ((UA A_1 0 55 ((2 * (A_1 0 42)) + x1)) 1) ((UA A_1 0 55 ((2 * (A_1 0 42)) + x1)) 0 1) (A 0 46) r_2 (UA A_1 0 55 ((2 * (A_1 0 42)) + x1)) A_2) → (((r_2 = 0) → Q (some (.int (iz 0))) (Φ (mI A_2))) ∧ (¬ (r_2 = 0) → (TapeB (A_2 1)) ∧ (0 ≤ A_2 0 46) ∧ (A_2 0 46 ≤ A_2 0 1) ∧ (A_2 0 1 ≤ 160) ∧ (∀ (A_3 : Nat → Int → Int), RG A_3 → (Fr [] [46, 47, 48, 49] A_2 A_3 ∧ Cur A_3 (A_2 1) (A_2 0 1) (A_2 0 46)) → (Rg (x1 + 1)) ∧ wpE (xT 171) (xev xT d) Q (11, [(0, .ref m), (1, .int (iz (x1 + 1)))], [], Φ (mI A_3)))))))))))) : wpE (xT 171) (xev xT d) Q (11, [(0, .ref m), (1, .int (iz x1))], [], Φ (mI A)) := by
  refine p_ild (cct c171_11 rfl) rfl ?_
  refine i_push (n := 2) (cc3 c171_12) zl_2 ?_
  refine i_icmp (c' := 2 ≤ x1) (cc3 c171_13) (iz_le (by decide) rr) (fun c => ?_) (fun c => ?_)
  · have h := h.1 c
    refine p_ald (cc3 c171_61) rfl ?_
    refine n_geti hΦ (v := A 0 47) (cc3 c171_62) (ji := 47) rfl rfl ?_
    refine i_if (c' := (A 0 47) = 0) (cc3 c171_65) (c_eq0 (hR 0 47)) (fun c => ?_) (fun c => ?_)
    · have h := h.1 c
      refine i_push (n := 1) (cc3 c171_68) zl_1 ?_
      refine p_goto (cc3 c171_69) ?_
      refine p_lc (ls' := []) c171_73 rfl rfl ?_
      exact i_ri (cct c171_73 rfl) (by decide) h
    · have h := h.2 c
      refine i_push (n := 0) (cc3 c171_72) zl_0 ?_
      refine p_lc (ls' := []) c171_73 rfl rfl ?_
      exact i_ri (cct c171_73 rfl) (by decide) h
  · have h := h.2 c
    refine p_ald (cc3 c171_16) rfl ?_
    refine p_ild (cc3 c171_17) rfl ?_
    refine p_callV (cc3 c171_18) (Nat.le_of_ble_eq_true rfl) rfl rfl (Nat.le_of_ble_eq_true rfl) (ml_kd hΦ) (S177 (Nat.le_trans (by decide) hd) hΦ hR rr) ?_
    refine i_ifB (cc3 c171_21) (fun c => ?_) (fun c => ?_)
    · have h := h.1 c
      refine i_push (n := 0) (cc3 c171_24) zl_0 ?_
      exact i_ri (cc3 c171_25) (by decide) h
    · have h := h.2 c
      refine p_ald (cc3 c171_26) rfl ?_
      obtain ⟨g1, h⟩ := h
      obtain ⟨g2, h⟩ := h
      obtain ⟨g3, h⟩ := h
      obtain ⟨g4, h⟩ := h
      obtain ⟨A_1, he, hR_1, hp_1⟩ := S172 (A := A) (Nat.le_trans (by decide) hd) hΦ hR ⟨g1, g2, g3, g4⟩
      have h := h A_1 hR_1 hp_1
      refine p_callV (cc3 c171_27) (Nat.le_of_ble_eq_true rfl) rfl rfl (Nat.le_of_ble_eq_true rfl) (ml_kd hΦ) he ?_
      refine p_ald (cc3 c171_30) rfl ?_
      refine i_push (n := 2) (cc3 c171_31) zl_2 ?_
      refine p_ald (cc3 c171_32) rfl ?_
      refine n_geti hΦ (v := A_1 0 42) (cc3 c171_33) (ji := 42) rfl rfl ?_
      obtain ⟨g5, h⟩ := h
      refine (fun _ : Rg (2 * (A_1 0 42)) => i_mul (cc3 c171_36) ?_) g5
      refine p_ild (cc3 c171_37) rfl ?_
      obtain ⟨g6, h⟩ := h
      refine (fun _ : Rg ((2 * (A_1 0 42)) + x1) => i_add (cc3 c171_38) ?_) g6
      refine (fun _ : Rg ((2 * (A_1 0 42)) + x1) => n_puti hΦ (cc3 c171_39) (ji := 55) rfl ?_) g6
      refine p_ald (cc3 c171_42) rfl ?_
      obtain ⟨g7, h⟩ := h
      obtain ⟨g8, h⟩ := h
      obtain ⟨g9, h⟩ := h
      obtain ⟨g10, h⟩ := h
      obtain ⟨g11, h⟩ := h
      obtain ⟨r_2, A_2, he, hr_2, hR_2, hp_2⟩ := S178 (A := UA A_1 0 55 ((2 * (A_1 0 42)) + x1)) (Nat.le_trans (by decide) hd) hΦ (rg_UA hR_1 g6) (A 0 46) ⟨g7, g8, g9, g10, g11⟩
      have h := h r_2 A_2 hr_2 hR_2 hp_2
      refine p_callV (cc3 c171_43) (Nat.le_of_ble_eq_true rfl) rfl rfl (Nat.le_of_ble_eq_true rfl) (ml_kd hΦ) he ?_
      refine i_if (c' := r_2 = 0) (cc3 c171_46) (c_eq0 hr_2) (fun c => ?_) (fun c => ?_)
      · have h := h.1 c
        refine i_push (n := 0) (cc3 c171_49) zl_0 ?_
        exact i_ri (cc3 c171_50) (by decide) h
      · have h := h.2 c
        refine p_ald (cc3 c171_51) rfl ?_
        obtain ⟨g12, h⟩ := h
        obtain ⟨g13, h⟩ := h
        obtain ⟨g14, h⟩ := h
        obtain ⟨g15, h⟩ := h
        obtain ⟨A_3, he, hR_3, hp_3⟩ := S172 (A := A_2) (Nat.le_trans (by decide) hd) hΦ hR_2 ⟨g12, g13, g14, g15⟩
        have h := h A_3 hR_3 hp_3
        refine p_callV (cc3 c171_52) (Nat.le_of_ble_eq_true rfl) rfl rfl (Nat.le_of_ble_eq_true rfl) (ml_kd hΦ) he ?_
        obtain ⟨g16, h⟩ := h
        refine (fun _ : Rg (x1 + 1) => i_iinc (n := 1) (y := x1 + 1) (ls' := [(1, .int (iz (x1 + 1))), (0, .ref m)]) (cc3 c171_55) (by decide) rfl zl_1 (by first | rfl | omega) rfl ?_) g16
        refine p_goto (cc3 c171_58) ?_
        exact p_lc (ls' := [(0, .ref m), (1, .int (iz (x1 + 1)))]) c171_11 rfl rfl h

theorem L171 {d : Nat} (hd : 4 ≤ d) {Q : Option Value → xM → Prop} {m : Nat} {Φ : (Nat → Nat → Int32) → xM} (hΦ : MLaw m Φ) {A0 : Nat → Int → Int} (p1 : TapeB (A0 1)) (p2 : 0 ≤ A0 0 1 ∧ A0 0 1 ≤ 160) (p3 : 1 ≤ A0 0 42 ∧ A0 0 42 ≤ 5) (hQ : ∀ r A', Rg r → RG A' → TextP A0 A' r → Q (some (.int (iz r))) (Φ (mI A'))) :
    ∀ (r k : Nat) (A : Nat → Int → Int), k + r = 2 → TI A0 A k → wpE (xT 171) (xev xT d) Q (11, [(0, .ref m), (1, .int (iz k))], [], Φ (mI A)) := by
  intro r
  induction r with
  | zero =>
    intro k A hk h
    obtain ⟨h1, h2, h3, h4, h5, h6, h7⟩ := h
    have ek : k = 2 := by omega
    subst ek
    have b0 := h5 0 (by omega)
    have b1 := h5 1 (by omega)
    have o0 : txO (A0 1) (A0 0 1) 0 0 := b0.1
    have o1 : txO (A0 1) (A0 0 1) 1 (txQ (A0 1) (A0 0 1) 1) := b1.1
    have e47 : A 0 47 = 0 ↔ tkC (A0 1) (A0 0 1) (txQ (A0 1) (A0 0 1) 2) = 401 := by
      have hr := tkC_r (t := A0 1) (n := A0 0 1) (p := txQ (A0 1) (A0 0 1) 2)
      rw [h3.2.2.1]
      unfold mTok
      (repeat' split) <;> (try unfold isSg at hr) <;> omega
    refine V171_11 hd hΦ h1 (by omega) ⟨fun _ => ⟨fun c => hQ 1 A (by decide) h1 ⟨h2, h6, h7, fun _ => ⟨rfl, fun j hj => (h5 j hj).2.1⟩, fun q => absurd ⟨o0, o1, e47.mp c⟩ q⟩, fun c => hQ 0 A (by decide) h1 ⟨h2, h6, h7, fun q => absurd (e47.mpr q.2.2) c, fun _ => ⟨rfl, ?_⟩⟩⟩, fun c => absurd (by decide) c⟩
    unfold txB
    rw [if_neg (fun q => q o0), if_neg (fun q => q o1), h3.1]
  | succ r ih =>
    intro k A hk h
    obtain ⟨h1, h2, h3, h4, h5, h6, h7⟩ := h
    have eT : A 1 = A0 1 := h2.1 1 (by decide) (by decide)
    have eN : A 0 1 = A0 0 1 := h2.2 1 (by decide)
    have e42 : A 0 42 = A0 0 42 := h2.2 42 (by decide)
    have ekey := h3.tok.2.2.1 (k : Int) (by omega) (by omega)
    have e46 := h3.2.1
    have hb := tkE_b (t := A0 1) (n := A0 0 1) h4.2
    have fault : ∀ A' : Nat → Int → Int, ¬ txO (A0 1) (A0 0 1) k (txQ (A0 1) (A0 0 1) k) → RG A' → Fr [33, 34, 35, 36] [46, 47, 48, 49, 52, 53, 54, 55] A0 A' → (∀ i : Int, i < 2 * A0 0 42 → A' 33 i = A0 33 i) → (∀ i : Int, i < 320 * A0 0 42 → A' 34 i = A0 34 i) → A' 0 49 = tkB (A0 1) (A0 0 1) (txF (A0 1) (A0 0 1) k (txQ (A0 1) (A0 0 1) k)) → Q (some (.int (iz 0))) (Φ (mI A')) := by
      intro A' hno g1 g2 g3 g4 g5
      have hnA : ¬ txA (A0 1) (A0 0 1) := fun q => by
        rcases (show k = 0 ∨ k = 1 by omega) with e | e <;> subst e
        · exact hno q.1
        · exact hno q.2.1
      refine hQ 0 A' (by decide) g1 ⟨g2, g3, g4, fun q => absurd q hnA, fun _ => ⟨rfl, ?_⟩⟩
      rw [g5]
      unfold txB
      rcases (show k = 0 ∨ k = 1 by omega) with e | e <;> subst e
      · have hno' : ¬ txO (A0 1) (A0 0 1) 0 0 := hno
        rw [if_pos hno']; rfl
      · have hno' : ¬ txO (A0 1) (A0 0 1) 1 (txQ (A0 1) (A0 0 1) 1) := hno
        rw [if_neg (fun q => q (h5 0 (by omega)).1), if_pos hno']; rfl
    refine V171_11 hd hΦ h1 (by omega) ⟨fun c => absurd c (by omega), fun _ => ⟨fun c => ?_, fun c => ?_⟩⟩
    · have hc : ¬ tkC (A0 1) (A0 0 1) (txQ (A0 1) (A0 0 1) k) = 200 + k := fun q => c (ekey.mpr q)
      exact fault A (fun q => hc q.1) h1 h2 h6 h7 (by unfold txF; rw [if_neg hc, h3.1])
    · have hc := ekey.mp c
      rw [eT, eN, e46]
      refine ⟨p1, by omega, hb.2.1, p2.2, fun A1 hR1 hp1 => ?_⟩
      obtain ⟨f1, c1⟩ := hp1
      have u : ∀ cc, ¬ cc = 0 → A1 cc = A cc := fun cc hcc => f1.1 cc (by simp) hcc
      have eT1 : A1 1 = A0 1 := (u 1 (by decide)).trans eT
      have eN1 : A1 0 1 = A0 0 1 := (f1.2 1 (by decide)).trans eN
      have e421 : A1 0 42 = A0 0 42 := (f1.2 42 (by decide)).trans e42
      rw [e421, eN1]
      have eU : (UA A1 0 55 (2 * A0 0 42 + k)) 1 = A0 1 := eT1
      have eUN : (UA A1 0 55 (2 * A0 0 42 + k)) 0 1 = A0 0 1 := eN1
      have eU5 : (UA A1 0 55 (2 * A0 0 42 + k)) 0 55 = 2 * A0 0 42 + k := UA_eq
      rw [eU, eUN]
      refine ⟨⟨by omega, by omega⟩, ⟨by omega, by omega⟩, c1, ⟨by omega, hb.2.1⟩, ⟨by omega, by omega⟩, p1, p2.2, fun r2 A2 hr2 hR2 hp2 => ?_⟩
      obtain ⟨q1, q2, q3, q4, q5⟩ := hp2
      rw [eU5] at q2 q3 q4
      have F2 : Fr [33, 34, 35, 36] [46, 47, 48, 49, 52, 53, 54, 55] A0 A2 := (h2.tr (f1.mono (by simp) (fun j h => by revert h; simp; omega))).tr ((Fr.rf.fld (by decide)).tr (q1.mono (fun c h => by revert h; simp) (fun j h => by revert h; simp; omega)))
      have g33 : ∀ i : Int, ¬ i = 2 * A0 0 42 + k → A2 33 i = A 33 i := fun i hi => by rw [q2 i hi]; show A1 33 i = A 33 i; rw [u 33 (by decide)]
      have g34 : ∀ i : Int, i < 160 * (2 * A0 0 42 + k) ∨ 160 * (2 * A0 0 42 + k) + 160 ≤ i → A2 34 i = A 34 i := fun i hi => by rw [q3 i hi]; show A1 34 i = A 34 i; rw [u 34 (by decide)]
      have z33 : ∀ i : Int, i < 2 * A0 0 42 → A2 33 i = A0 33 i := fun i hi => (g33 i (by omega)).trans (h6 i hi)
      have z34 : ∀ i : Int, i < 320 * A0 0 42 → A2 34 i = A0 34 i := fun i hi => (g34 i (by omega)).trans (h7 i hi)
      by_cases ok : pOK (A0 1) (A0 0 1) (tkE (A0 1) (A0 0 1) (txQ (A0 1) (A0 0 1) k))
      · obtain ⟨w1, w2, w3, w4⟩ := q4 ok
        refine ⟨fun q => by omega, fun _ => ?_⟩
        have hrd := (rdE_ok (t := A0 1) (n := A0 0 1) 41 0 0 (tkE (A0 1) (A0 0 1) (txQ (A0 1) (A0 0 1) k)) (by decide) (by omega) hb.2.1).1 ok.1
        obtain ⟨v1, v2, v3, -⟩ := hrd
        change (_ : Int) < (prR (A0 1) (A0 0 1) (tkE (A0 1) (A0 0 1) (txQ (A0 1) (A0 0 1) k))).2.1 at v1
        change (prR (A0 1) (A0 0 1) (tkE (A0 1) (A0 0 1) (txQ (A0 1) (A0 0 1) k))).2.1 ≤ _ at v2
        change (((txRow (A0 1) (A0 0 1) k).length : Nat) : Int) ≤ (prR (A0 1) (A0 0 1) (tkE (A0 1) (A0 0 1) (txQ (A0 1) (A0 0 1) k))).2.1 - _ at v3
        have hb2 := tkE_b (t := A0 1) (n := A0 0 1) v2
        have eT2 : A2 1 = A0 1 := F2.1 1 (by decide) (by decide)
        have eN2 : A2 0 1 = A0 0 1 := F2.2 1 (by decide)
        rw [eT2, eN2, w2]
        refine ⟨p1, by omega, hb2.2.1, p2.2, fun A3 hR3 hp3 => ⟨⟨by omega, by omega⟩, ?_⟩⟩
        obtain ⟨f3, c3⟩ := hp3
        have u3 : ∀ cc, ¬ cc = 0 → A3 cc = A2 cc := fun cc hcc => f3.1 cc (by simp) hcc
        refine ih (k + 1) A3 (by omega) ⟨hR3, F2.tr (f3.mono (by simp) (fun j h => by revert h; simp; omega)), c3, ⟨by show 0 ≤ tkE _ _ _; omega, hb2.2.1⟩, fun j hj => ?_, fun i hi => by rw [u3 33 (by decide)]; exact z33 i hi, fun i hi => by rw [u3 34 (by decide)]; exact z34 i hi⟩
        by_cases ej : j = k
        · subst ej
          refine ⟨⟨hc, ok⟩, ⟨by rw [u3 33 (by decide)]; exact w3, by rw [u3 34 (by decide)]; exact w4⟩, by omega⟩
        · obtain ⟨b1, b2, b3⟩ := h5 j (by omega)
          exact ⟨b1, b2.c b3 (by rw [u3 33 (by decide)]; exact g33 _ (by omega)) (fun i i1 i2 => by rw [u3 34 (by decide)]; exact g34 i (by omega)), b3⟩
      · obtain ⟨w1, w2⟩ := q5 ok
        refine ⟨fun _ => fault A2 (fun q => ok q.2) hR2 F2 z33 z34 (by rw [w2]; unfold txF; rw [if_pos hc]), fun q => absurd w1 q⟩
theorem S171 {d : Nat} (hd : 5 ≤ d) {m : Nat} {Φ : (Nat → Nat → Int32) → xM} (hΦ : MLaw m Φ) {A : Nat → Int → Int} (hR : RG A) (hp : (TapeB (A 1)) ∧ (0 ≤ A 0 1 ∧ A 0 1 ≤ 160) ∧ (1 ≤ A 0 42 ∧ A 0 42 ≤ 5)) : ∃ (r : Int) (A' : Nat → Int → Int), xev xT d 171 [.ref m] (Φ (mI A)) (some (.int (iz r))) (Φ (mI A')) ∧ Rg r ∧ RG A' ∧ (TextP A A' r) := by
  refine xev_g (i := 171) (as := [.ref m]) (σ := Φ (mI A)) (Q := fun r_ σ_ => ∃ (r : Int) (A' : Nat → Int → Int), r_ = (some (.int (iz r))) ∧ σ_ = Φ (mI A') ∧ Rg r ∧ RG A' ∧ (TextP A A' r)) (D := 4) hd (Nat.le_of_ble_eq_true rfl) (fun r_ σ_ he hq => ?_) (fun d hd => V171_0 hd hΦ hR ?_)
  · obtain ⟨r, A', rfl, rfl, hq⟩ := hq
    exact ⟨r, A', he, hq⟩

  obtain ⟨p1, p2, p3⟩ := hp
  refine ⟨p1, by decide, p2.1, p2.2, fun A1 hR1 hp1 => ?_⟩
  obtain ⟨f1, c1⟩ := hp1
  refine L171 hd hΦ p1 p2 p3 (fun r A' h1 h2 h3 => ⟨r, A', rfl, rfl, h1, h2, h3⟩) 2 0 A1 rfl ⟨hR1, (Fr.rf.fld (by decide)).tr (f1.mono (by simp) (fun j h => by revert h; simp; omega)), c1, ⟨Int.le_refl 0, p2.1⟩, fun j hj => absurd hj (by omega), fun i hi => ?_, fun i hi => ?_⟩
  · rw [f1.1 33 (by simp) (by decide)]; rfl
  · rw [f1.1 34 (by simp) (by decide)]; rfl
theorem V170_0 {d : Nat} (hd : 5 ≤ d) {Q : Option Value → xM → Prop} {m : Nat} {Φ : (Nat → Nat → Int32) → xM} (hΦ : MLaw m Φ) {A : Nat → Int → Int} (hR : RG A) (h : ((((A 0 42) = 6) → Q (some (.int (iz (-4)))) (Φ (mI A))) ∧ (¬ ((A 0 42) = 6) → (TapeB (A 1)) ∧ (0 ≤ A 0 1 ∧ A 0 1 ≤ 160) ∧ (1 ≤ A 0 42 ∧ A 0 42 ≤ 5) ∧ (∀ (r_1 : Int) (A_1 : Nat → Int → Int), Rg r_1 → RG A_1 → (TextP A A_1 r_1) → (((r_1 = 0) → (Rg ((-100) - (A_1 0 49))) ∧ Q (some (.int (iz ((-100) - (A_1 0 49))))) (Φ (mI (UA A_1 0 1 0)))) ∧ (¬ (r_1 = 0) → (Rg ((A_1 0 42) + 1)) ∧ (Rg (((A_1 0 42) + 1) - 1)) ∧ Q (some (.int (iz (((A_1 0 42) + 1) - 1)))) (Φ (mI (UA (UA A_1 0 1 0) 0 42 ((A_1 0 42) + 1)))))))))) : wpE (xT 170) (xev xT d) Q (0, [(0, .ref m)], [], Φ (mI A)) := by
  refine p_ald (cc3 c170_0) rfl ?_
  refine n_geti hΦ (v := A 0 42) (cc3 c170_1) (ji := 42) rfl rfl ?_
  refine i_push (n := 6) (cc3 c170_4) zl_6 ?_
  refine i_icmp (c' := (A 0 42) = 6) (cc3 c170_6) (iz_inj (hR 0 42) (by decide)) (fun c => ?_) (fun c => ?_)
  · have h := h.1 c
    refine i_push (n := (-4)) (cc3 c170_9) zl_m4 ?_
    exact p_ri (cc3 c170_11) trivial h
  · have h := h.2 c
    refine p_ald (cc3 c170_12) rfl ?_
    obtain ⟨g1, h⟩ := h
    obtain ⟨g2, h⟩ := h
    obtain ⟨g3, h⟩ := h
    obtain ⟨r_1, A_1, he, hr_1, hR_1, hp_1⟩ := S171 (A := A) (Nat.le_trans (by decide) hd) hΦ hR ⟨g1, g2, g3⟩
    have h := h r_1 A_1 hr_1 hR_1 hp_1
    refine p_callV (cc3 c170_13) (Nat.le_of_ble_eq_true rfl) rfl rfl (Nat.le_of_ble_eq_true rfl) (ml_kd hΦ) he ?_
    refine p_ist (ls' := [(1, .int (iz r_1)), (0, .ref m)]) (cc3 c170_16) (by decide) rfl ?_
    refine p_ald (cc3 c170_17) rfl ?_
    refine n_geti hΦ (v := A_1 0 49) (cc3 c170_18) (ji := 49) rfl rfl ?_
    refine p_ist (ls' := [(2, .int (iz (A_1 0 49))), (1, .int (iz r_1)), (0, .ref m)]) (cc3 c170_21) (by decide) rfl ?_
    refine p_ald (cc3 c170_22) rfl ?_
    refine i_push (n := 0) (cc3 c170_23) zl_0 ?_
    refine (fun _ : Rg 0 => n_puti hΦ (cc3 c170_24) (ji := 1) rfl ?_) (by decide)
    refine p_ild (cc3 c170_27) rfl ?_
    refine i_if (c' := r_1 = 0) (cc3 c170_28) (c_eq0 hr_1) (fun c => ?_) (fun c => ?_)
    · have h := h.1 c
      refine i_push (n := (-100)) (cc3 c170_31) zl_m100 ?_
      refine p_ild (cc3 c170_33) rfl ?_
      obtain ⟨g4, h⟩ := h
      refine (fun _ : Rg ((-100) - (A_1 0 49)) => i_sub (cc3 c170_34) ?_) g4
      exact p_ri (cc3 c170_35) trivial h
    · have h := h.2 c
      refine p_ald (cc3 c170_36) rfl ?_
      refine p_dup (cc3 c170_37) rfl ?_
      refine n_geti hΦ (v := A_1 0 42) (cc3 c170_38) (ji := 42) rfl rfl ?_
      refine i_push (n := 1) (cc3 c170_41) zl_1 ?_
      obtain ⟨g4, h⟩ := h
      refine (fun _ : Rg ((A_1 0 42) + 1) => i_add (cc3 c170_42) ?_) g4
      refine (fun _ : Rg ((A_1 0 42) + 1) => n_puti hΦ (cc3 c170_43) (ji := 42) rfl ?_) g4
      refine p_ald (cc3 c170_46) rfl ?_
      refine n_geti hΦ (v := (A_1 0 42) + 1) (cc3 c170_47) (ji := 42) rfl rfl ?_
      refine i_push (n := 1) (cc3 c170_50) zl_1 ?_
      obtain ⟨g5, h⟩ := h
      refine (fun _ : Rg (((A_1 0 42) + 1) - 1) => i_sub (cc3 c170_51) ?_) g5
      exact p_ri (cc3 c170_52) trivial h

theorem txB_b {t : Int → Int} {n : Int} (hn : 0 ≤ n ∧ n ≤ 160) : 0 ≤ txB t n ∧ txB t n ≤ 160 := by
  have key : ∀ p : Int, 0 ≤ p → p ≤ n → 0 ≤ tkB t n p ∧ tkB t n p ≤ 160 := fun p h0 h1 => by have := tkE_b (t := t) h1; omega
  have pr : ∀ p : Int, 0 ≤ p → p ≤ n → 0 ≤ (prR t n (tkE t n p)).2.1 ∧ (prR t n (tkE t n p)).2.1 ≤ n := fun p h0 h1 => by
    have hb := tkE_b (t := t) h1
    have h := rdE_ok (t := t) (n := n) 41 0 0 (tkE t n p) (by decide) (by omega) hb.2.1
    by_cases c : (rdE t n 41 0 0 (tkE t n p)).1 = true
    · obtain ⟨a, b, -⟩ := h.1 c; unfold prR; omega
    · have := h.2 c; unfold prR; omega
  have q1 : ∀ k : Nat, 0 ≤ txQ t n k ∧ txQ t n k ≤ n := fun k => by
    induction k with
    | zero => exact ⟨Int.le_refl 0, hn.1⟩
    | succ k ih =>
      have h := pr _ ih.1 ih.2
      have hb := tkE_b (t := t) h.2
      show 0 ≤ tkE t n _ ∧ tkE t n _ ≤ n
      omega
  have fF : ∀ w p : Int, 0 ≤ p → p ≤ n → 0 ≤ txF t n w p ∧ txF t n w p ≤ n := fun w p h0 h1 => by
    unfold txF
    split
    · exact pr p h0 h1
    · exact ⟨h0, h1⟩
  unfold txB
  split
  · have := fF 0 0 (Int.le_refl 0) hn.1; exact key _ this.1 this.2
  · split
    · have := fF 1 _ (q1 1).1 (q1 1).2; exact key _ this.1 this.2
    · exact key _ (q1 2).1 (q1 2).2
theorem S170 {d : Nat} (hd : 6 ≤ d) {m : Nat} {Φ : (Nat → Nat → Int32) → xM} (hΦ : MLaw m Φ) {A : Nat → Int → Int} (hR : RG A) (hp : (TapeB (A 1)) ∧ (0 ≤ A 0 1 ∧ A 0 1 ≤ 160) ∧ (1 ≤ A 0 42 ∧ A 0 42 ≤ 6)) : ∃ (r : Int) (A' : Nat → Int → Int), xev xT d 170 [.ref m] (Φ (mI A)) (some (.int (iz r))) (Φ (mI A')) ∧ Rg r ∧ RG A' ∧ ((A 0 42 = 6 → r = -4 ∧ A' = A) ∧ (¬ A 0 42 = 6 → Fr [33, 34, 35, 36] [1, 42, 46, 47, 48, 49, 52, 53, 54, 55] A A' ∧ A' 0 1 = 0 ∧ (∀ i : Int, i < 2 * A 0 42 → A' 33 i = A 33 i) ∧ (∀ i : Int, i < 320 * A 0 42 → A' 34 i = A 34 i) ∧ (txA (A 1) (A 0 1) → r = A 0 42 ∧ A' 0 42 = A 0 42 + 1 ∧ ∀ j : Nat, j < 2 → RowIs A' (2 * A 0 42 + j) (txRow (A 1) (A 0 1) j)) ∧ (¬ txA (A 1) (A 0 1) → r = -100 - txB (A 1) (A 0 1) ∧ A' 0 42 = A 0 42))) := by
  refine xev_g (i := 170) (as := [.ref m]) (σ := Φ (mI A)) (Q := fun r_ σ_ => ∃ (r : Int) (A' : Nat → Int → Int), r_ = (some (.int (iz r))) ∧ σ_ = Φ (mI A') ∧ Rg r ∧ RG A' ∧ ((A 0 42 = 6 → r = -4 ∧ A' = A) ∧ (¬ A 0 42 = 6 → Fr [33, 34, 35, 36] [1, 42, 46, 47, 48, 49, 52, 53, 54, 55] A A' ∧ A' 0 1 = 0 ∧ (∀ i : Int, i < 2 * A 0 42 → A' 33 i = A 33 i) ∧ (∀ i : Int, i < 320 * A 0 42 → A' 34 i = A 34 i) ∧ (txA (A 1) (A 0 1) → r = A 0 42 ∧ A' 0 42 = A 0 42 + 1 ∧ ∀ j : Nat, j < 2 → RowIs A' (2 * A 0 42 + j) (txRow (A 1) (A 0 1) j)) ∧ (¬ txA (A 1) (A 0 1) → r = -100 - txB (A 1) (A 0 1) ∧ A' 0 42 = A 0 42)))) (D := 5) hd (Nat.le_of_ble_eq_true rfl) (fun r_ σ_ he hq => ?_) (fun d hd => V170_0 hd hΦ hR ?_)
  · obtain ⟨r, A', rfl, rfl, hq⟩ := hq
    exact ⟨r, A', he, hq⟩

  obtain ⟨p1, p2, p3⟩ := hp
  refine ⟨fun c => ⟨-4, A, rfl, rfl, by decide, hR, fun _ => ⟨rfl, rfl⟩, fun q => absurd c q⟩, fun c => ⟨p1, p2, by omega, fun r1 A1 hr1 hR1 hp1 => ?_⟩⟩
  obtain ⟨q1, q2, q3, q4, q5⟩ := hp1
  have e42 : A1 0 42 = A 0 42 := q1.2 42 (by decide)
  have hF : Fr [33, 34, 35, 36] [1, 42, 46, 47, 48, 49, 52, 53, 54, 55] A (UA A1 0 1 0) := (q1.mono (fun c h => h) (fun j h => by revert h; simp; omega)).fld (by decide)
  have hB : 0 ≤ txB (A 1) (A 0 1) ∧ txB (A 1) (A 0 1) ≤ 160 → Rg (-100 - txB (A 1) (A 0 1)) := fun q => ⟨by omega, by omega⟩
  by_cases hA : txA (A 1) (A 0 1)
  · obtain ⟨z1, z2⟩ := q4 hA
    refine ⟨fun q => by omega, fun _ => ⟨by rw [e42]; exact ⟨by omega, by omega⟩, by rw [e42]; exact ⟨by omega, by omega⟩, ?_⟩⟩
    rw [e42]
    refine ⟨A 0 42 + 1 - 1, _, rfl, rfl, ⟨by omega, by omega⟩, rg_UA (rg_UA hR1 (by decide)) ⟨by omega, by omega⟩, fun q => absurd q c, fun _ => ⟨hF.fld (by decide), rfl, q2, q3, fun _ => ⟨by omega, rfl, z2⟩, fun q => absurd hA q⟩⟩
  · obtain ⟨z1, z2⟩ := q5 hA
    have r49 := hR1 0 49
    refine ⟨fun _ => ?_, fun q => absurd z1 q⟩
    rw [z2]
    have hrg : Rg (-100 - txB (A 1) (A 0 1)) := hB (txB_b p2)
    exact ⟨hrg, _, _, rfl, rfl, hrg, rg_UA hR1 (by decide), fun q => absurd q c, fun _ => ⟨hF, rfl, q2, q3, fun q => absurd q hA, fun _ => ⟨rfl, e42⟩⟩⟩
