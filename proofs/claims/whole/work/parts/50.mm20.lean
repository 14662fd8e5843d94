theorem tok_is {A : Nat → Int → Int} {t : Int → Int} {n p : Int} (h : Cur A t n p) : ((A 0 47 = 3 ∧ A 0 48 = 4) ↔ tkC t n p = 204) ∧ ((A 0 47 = 4 ∧ A 0 48 = 45) ↔ tkC t n p = 45) ∧ ((A 0 47 = 4 ∧ A 0 48 = 40) ↔ tkC t n p = 40) ∧ ((A 0 47 = 4 ∧ A 0 48 = 41) ↔ tkC t n p = 41) ∧ ((A 0 47 = 4 ∧ A 0 48 = 59) ↔ tkC t n p = 59) := by
  obtain ⟨-, -, t3, t4, -, -⟩ := h.tok
  exact ⟨t3 4 (by decide) (by decide), t4 45 (by decide), t4 40 (by decide), t4 41 (by decide), t4 59 (by decide)⟩
theorem pHold {d : Nat} {Q : Option Value → xM → Prop} {m : Nat} {Φ : (Nat → Nat → Int32) → xM} {A0 A : Nat → Int → Int} {t : Int → Int} {n o : Int} {S out : List Int} {F : Int → Int} {op p x1 x2 w : Int} (hT : TapeB t) (hn : n ≤ 160) (h : PS A0 t n o A S out F op p) (hlt : tkB t n p < n) (hop : 0 ≤ op ∧ op < 5) (hw : w = -3 ∨ w = -9)
    (hQ : ∀ A2, PS A0 t n o A2 (w :: S) out F (op + 1) (tkE t n p) → wpE (xT 178) (xev xT d) Q (36, [(0, .ref m), (1, .int (iz x1)), (2, .int (iz x2))], [], Φ (mI A2))) :
    (0 ≤ A 0 52 ∧ A 0 52 < 161) ∧ (0 ≤ A 0 54 ∧ A 0 54 ≤ 5) ∧ (TapeB ((m_hold A w) 1)) ∧ (0 ≤ (m_hold A w) 0 46) ∧ ((m_hold A w) 0 46 ≤ (m_hold A w) 0 1) ∧ ((m_hold A w) 0 1 ≤ 160) ∧ (∀ (A_1 : Nat → Int → Int), RG A_1 → (Fr [] [46, 47, 48, 49] (m_hold A w) A_1 ∧ Cur A_1 ((m_hold A w) 1) ((m_hold A w) 0 1) ((m_hold A w) 0 46)) → wpE (xT 178) (xev xT d) Q (36, [(0, .ref m), (1, .int (iz x1)), (2, .int (iz x2))], [], Φ (mI A_1))) := by
  obtain ⟨hB, -, h15, hp⟩ := h
  have te := tkE_b (t := t) (n := n) (p := p) hp.2
  have hB' := hB
  obtain ⟨-, -, -, -, -, -, -, -, g12, g13, g14, g16, -⟩ := hB'
  have hP := hB.hold (w := w) (by rcases hw with e | e <;> subst e <;> decide) (by rcases hw with e | e <;> subst e <;> decide) (by omega) (by omega) (by omega)
  rw [if_pos hw] at hP
  have hP' := hP
  obtain ⟨-, -, -, -, ⟨w5, w6, w7, w8⟩, -⟩ := hP'
  exact ⟨by omega, by omega, by rw [w5]; exact hT, by omega, by omega, by omega, fun A2 hR2 hp2 => hQ A2 (hP.nx (by omega) hR2 hp2.1 hp2.2)⟩
theorem pT2 {d : Nat} (hd : 3 ≤ d) {Q : Option Value → xM → Prop} {m : Nat} {Φ : (Nat → Nat → Int32) → xM} (hΦ : MLaw m Φ) {A0 A : Nat → Int → Int} {t : Int → Int} {n o : Int} {S out : List Int} {F : Int → Int} {op p : Int} (hT : TapeB t) (hn : n ≤ 160) (h : PS A0 t n o A S out F op p) (hop : 0 ≤ op ∧ op < 5) (hc : tkC t n p = 204)
    (hQ : ∀ A2, PS A0 t n o A2 (-3 :: S) out F (op + 1) (tkE t n p) → wpE (xT 178) (xev xT d) Q (36, [(0, .ref m), (1, .int (iz 1)), (2, .int (iz 1))], [], Φ (mI A2))) : wpE (xT 178) (xev xT d) Q (36, [(0, .ref m), (1, .int (iz 1)), (2, .int (iz 1))], [], Φ (mI A)) := by
  have hah : m_ahead A 1 := (ahead_iff h).mpr (Or.inr (Or.inr ⟨by omega, Or.inl ⟨hc, by decide⟩⟩))
  have hlt := tkC_lt (t := t) (n := n) (p := p) (by omega)
  have hk := (tok_is h.2.1).1.mpr hc
  exact V178_36 hd hΦ h.1.1 ⟨by decide, by decide⟩ ⟨fun q => absurd q (by decide), fun _ => ⟨Or.inr rfl, fun q => absurd hah q, fun _ => ⟨fun q => absurd hk q, fun _ => pHold (w := -3) hT hn h hlt hop (Or.inl rfl) hQ⟩⟩⟩
theorem pT3 {d : Nat} (hd : 3 ≤ d) {Q : Option Value → xM → Prop} {m : Nat} {Φ : (Nat → Nat → Int32) → xM} (hΦ : MLaw m Φ) {A0 A : Nat → Int → Int} {t : Int → Int} {n o : Int} {S out : List Int} {F : Int → Int} {op p x2 : Int} (hT : TapeB t) (hn : n ≤ 160) (h : PS A0 t n o A S out F op p) (h2 : x2 = 0 ∨ x2 = 1) (hop : 0 ≤ op ∧ op < 5) (hc : tkC t n p = 45)
    (hQ : ∀ A2, PS A0 t n o A2 (-9 :: S) out F (op + 1) (tkE t n p) → wpE (xT 178) (xev xT d) Q (36, [(0, .ref m), (1, .int (iz 1)), (2, .int (iz 0))], [], Φ (mI A2))) : wpE (xT 178) (xev xT d) Q (36, [(0, .ref m), (1, .int (iz 1)), (2, .int (iz x2))], [], Φ (mI A)) := by
  have rr : Rg (1 : Int) ∧ Rg x2 := ⟨by decide, by rcases h2 with e | e <;> subst e <;> decide⟩
  have hah : m_ahead A x2 := (ahead_iff h).mpr (Or.inr (Or.inr ⟨by omega, Or.inr (Or.inr hc)⟩))
  have hlt := tkC_lt (t := t) (n := n) (p := p) (by omega)
  obtain ⟨k1, k2, -⟩ := tok_is h.2.1
  have hk := k2.mpr hc
  have hk1 : ¬ (A 0 47 = 3 ∧ A 0 48 = 4) := fun q => by have := k1.mp q; omega
  exact V178_36 hd hΦ h.1.1 rr ⟨fun q => absurd q (by decide), fun _ => ⟨h2, fun q => absurd hah q, fun _ => ⟨fun _ => ⟨fun q => absurd hk q, fun _ => pHold (w := -9) hT hn h hlt hop (Or.inr rfl) hQ⟩, fun q => absurd q hk1⟩⟩⟩
theorem PB.br {A0 A : Nat → Int → Int} {t : Int → Int} {n o : Int} {S out : List Int} {F : Int → Int} {op q : Int} (h : PB A0 t n o A S out F op q) (hop : 0 ≤ op ∧ op ≤ 5) (hb : cntB S ≤ 5) (hm : A 33 o + A 0 52 + 1 ≤ q) (hq : q ≤ 160) : PB A0 t n o (UA (UA (m_hold A (-10)) 0 53 (A 0 53 + 1)) 36 (A 0 53 + 1) 0) (-10 :: S) out (fun i => if i = cntB S + 1 then 0 else F i) (op + 1) q := by
  obtain ⟨h1, h2, h3, h4, ⟨h5, h6, h7, h8⟩, h9, h10, h11, h12, h13, h14, h15, h16⟩ := h
  have hbn := cntB_nn S
  have eh : m_hold A (-10) = UA (UA (UA A 35 (A 0 52) (-10)) 0 52 (A 0 52 + 1)) 0 54 (A 0 54 + 1) := by unfold m_hold; rw [if_pos (by decide)]
  have hw : wts (m_hold A (-10)) = -10 :: wts A := wts_hold h13
  rw [eh] at hw ⊢
  have hF : Fr [33, 34, 35, 36] [46, 47, 48, 49, 52, 53, 54] A0 (UA (UA (UA (UA (UA A 35 (A 0 52) (-10)) 0 52 (A 0 52 + 1)) 0 54 (A 0 54 + 1)) 0 53 (A 0 53 + 1)) 36 (A 0 53 + 1) 0) := ((((h2.row (by decide) (by decide)).fld (by decide)).fld (by decide)).fld (by decide)).row (by decide) (by decide)
  refine ⟨rg_UA (rg_UA (rg_UA (rg_UA (rg_UA h1 (by decide)) (by omega)) (by omega)) (by omega)) (by decide), hF, h3, h4, ⟨h5, h6, h7, h8⟩, ?_, ?_, ?_, ?_, ?_, h14, ?_, ?_⟩
  · rw [← h9, ← hw]; rfl
  · rw [← h10]; rfl
  · funext i
    show (if (36 : Nat) = 36 ∧ i = A 0 53 + 1 then 0 else A 36 i) = _
    rw [h16, ← h11]
    by_cases c : i = cntB S + 1
    · rw [if_pos ⟨rfl, c⟩, if_pos c]
    · rw [if_neg (fun q => c q.2), if_neg c]
  · show A 0 54 + 1 = _; rw [h12]
  · show 0 ≤ A 0 52 + 1; omega
  · show A 33 o + (A 0 52 + 1) ≤ q; omega
  · show A 0 53 + 1 = 1 + cntB S; rw [h16]; omega
theorem pT4 {d : Nat} (hd : 3 ≤ d) {Q : Option Value → xM → Prop} {m : Nat} {Φ : (Nat → Nat → Int32) → xM} (hΦ : MLaw m Φ) {A0 A : Nat → Int → Int} {t : Int → Int} {n o : Int} {S out : List Int} {F : Int → Int} {op p x2 : Int} (hT : TapeB t) (hn : n ≤ 160) (h : PS A0 t n o A S out F op p) (h2 : x2 = 0 ∨ x2 = 1) (hop : 0 ≤ op ∧ op < 5) (hb : cntB S ≤ 5) (hc : tkC t n p = 40)
    (hQ : ∀ A2, PS A0 t n o A2 (-10 :: S) out (fun i => if i = cntB S + 1 then 0 else F i) (op + 1) (tkE t n p) → wpE (xT 178) (xev xT d) Q (36, [(0, .ref m), (1, .int (iz 1)), (2, .int (iz 1))], [], Φ (mI A2))) : wpE (xT 178) (xev xT d) Q (36, [(0, .ref m), (1, .int (iz 1)), (2, .int (iz x2))], [], Φ (mI A)) := by
  have rr : Rg (1 : Int) ∧ Rg x2 := ⟨by decide, by rcases h2 with e | e <;> subst e <;> decide⟩
  have hah : m_ahead A x2 := (ahead_iff h).mpr (Or.inr (Or.inr ⟨by omega, Or.inr (Or.inl hc)⟩))
  have hlt := tkC_lt (t := t) (n := n) (p := p) (by omega)
  obtain ⟨k1, k2, k3, -⟩ := tok_is h.2.1
  have hk := k3.mpr hc
  have hk1 : ¬ (A 0 47 = 3 ∧ A 0 48 = 4) := fun q => by have := k1.mp q; omega
  have hk2 : ¬ (A 0 47 = 4 ∧ A 0 48 = 45) := fun q => by have := k2.mp q; omega
  have h' := h
  obtain ⟨hB, -, h15, hp⟩ := h'
  have te := tkE_b (t := t) (n := n) (p := p) hp.2
  have hB' := hB
  obtain ⟨-, -, -, -, ⟨u5, u6, u7, u8⟩, -, -, -, g12, g13, g14, g16, g17⟩ := hB'
  have hbn := cntB_nn S
  have e53 : m_hold A (-10) 0 53 = A 0 53 := by unfold m_hold; rw [if_pos (by decide)]; rfl
  have e46 : m_hold A (-10) 0 46 = tkE t n p := by unfold m_hold; rw [if_pos (by decide)]; exact u8
  have e01 : m_hold A (-10) 0 1 = n := by unfold m_hold; rw [if_pos (by decide)]; exact u6
  have hP := hB.br (by omega) hb (by omega) (by omega)
  have hP' := hP
  obtain ⟨-, -, -, -, ⟨w5, w6, w7, w8⟩, -⟩ := hP'
  refine V178_36 hd hΦ h.1.1 rr ⟨fun q => absurd q (by decide), fun _ => ⟨h2, fun q => absurd hah q, fun _ => ⟨fun _ => ⟨fun _ => ⟨fun q => absurd hk q, fun _ => ?_⟩, fun q => absurd q hk2⟩, fun q => absurd q hk1⟩⟩⟩
  rw [e53, e46, e01]
  refine ⟨by omega, by omega, by omega, by omega, by rw [w5]; exact hT, by omega, by omega, by omega, fun A2 hR2 hp2 => hQ A2 (hP.nx (by omega) hR2 hp2.1 ?_)⟩
  rw [w6, w8]
  have := hp2.2
  exact (show Cur A2 _ n (tkE t n p) from by
    have e1 : (UA (UA (m_hold A (-10)) 0 53 (A 0 53 + 1)) 36 (A 0 53 + 1) 0) 0 1 = n := w6
    have e2 : (UA (UA (m_hold A (-10)) 0 53 (A 0 53 + 1)) 36 (A 0 53 + 1) 0) 0 46 = tkE t n p := w8
    rw [e1, e2] at this
    exact this)
theorem pT7 {d : Nat} (hd : 3 ≤ d) {Q : Option Value → xM → Prop} {m : Nat} {Φ : (Nat → Nat → Int32) → xM} (hΦ : MLaw m Φ) {A0 A : Nat → Int → Int} {t : Int → Int} {n o : Int} {S out : List Int} {F : Int → Int} {op p x2 : Int} (hn : n ≤ 160) (ho : 0 ≤ o ∧ o < 12) (h : PS A0 t n o A S out F op p) (h2 : x2 = 0 ∨ x2 = 1) (hop : cntO S ≤ op ∧ op ≤ 5) (hc : tkC t n p = 59)
    (hQ : ∀ A1, PB A0 t n o A1 (popS 1 S) ((popR 1 S).reverse ++ out) F (op - cntO (popR 1 S)) (tkE t n p) → A1 0 49 = tkB t n p → (cntB S = 0 → Q (some (.int (iz 1))) (Φ (mI A1))) ∧ (¬ cntB S = 0 → Q (some (.int (iz 0))) (Φ (mI A1)))) : wpE (xT 178) (xev xT d) Q (36, [(0, .ref m), (1, .int (iz 0)), (2, .int (iz x2))], [], Φ (mI A)) := by
  have rr : Rg (0 : Int) ∧ Rg x2 := ⟨by decide, by rcases h2 with e | e <;> subst e <;> decide⟩
  have hk := (tok_is h.2.1).2.2.2.2.mpr hc
  obtain ⟨hB, hcur, h15, hp⟩ := h
  have hB' := hB
  obtain ⟨g1, -, -, -, ⟨u5, u6, u7, u8⟩, u9, -, -, g12, g13, g14, g16, g17⟩ := hB'
  have hpop := cntO_pop (l := 1) S
  have hnn := cntO_nn (popS 1 S)
  have hbp := cntB_pop (l := 1) (by decide) S
  refine V178_36 hd hΦ g1 rr ⟨fun _ => ⟨fun q => absurd hk q, fun _ => ⟨by decide, by omega, by omega, by rw [u7]; omega, by rw [u9, g12]; omega, fun A1 hR1 hS1 => ?_⟩⟩, fun q => absurd rfl q⟩
  have hP1 := hB.st (by decide) hR1 hS1
  have e49 : A1 0 49 = tkB t n p := by rw [hS1.1.2 49 (by decide)]; exact hcur.1
  have hP1' := hP1
  obtain ⟨-, -, -, -, -, -, -, -, -, -, -, -, w53⟩ := hP1'
  rw [w53, hbp]
  exact hQ A1 hP1 e49
theorem PB.cl {A0 A : Nat → Int → Int} {t : Int → Int} {n o w : Int} {S out : List Int} {F : Int → Int} {op q : Int} (h : PB A0 t n o A (-10 :: S) out F op q) (hop : 1 ≤ op ∧ op ≤ 5) (hb : cntB S ≤ 5) (hq : q ≤ 160) : PB A0 t n o (UA (UA (UA A 0 52 (A 0 52 - 1)) 0 54 (A 0 54 - 1)) 0 53 (A 0 53 - 1)) S out F (op - 1) q ∧ 1 ≤ A 0 52 ∧ 1 ≤ A 0 53 := by
  obtain ⟨h1, h2, h3, h4, ⟨h5, h6, h7, h8⟩, h9, h10, h11, h12, h13, h14, h15, h16⟩ := h
  have hbn := cntB_nn S
  have e16 : A 0 53 = 1 + cntB S := h16
  obtain ⟨k, hk⟩ : ∃ k : Nat, A 0 52 = k := ⟨(A 0 52).toNat, by omega⟩
  have hk1 : 1 ≤ k := by
    apply Classical.byContradiction
    intro c
    have e : k = 0 := by omega
    subst e
    unfold wts at h9
    rw [hk] at h9
    cases h9
  obtain ⟨j, rfl⟩ : ∃ j, k = j + 1 := ⟨k - 1, by omega⟩
  have hs : stL (A 35) j = S := by
    unfold wts at h9
    rw [hk, show (((j + 1 : Nat) : Int)).toNat = j + 1 by omega] at h9
    exact (List.cons.inj h9).2
  refine ⟨⟨rg_UA (rg_UA (rg_UA h1 (by omega)) (by omega)) (by omega), ((h2.fld (by decide)).fld (by decide)).fld (by decide), h3, h4, ⟨h5, h6, h7, h8⟩, ?_, ?_, ?_, ?_, ?_, h14, ?_, ?_⟩, by omega, by omega⟩
  · rw [← hs]
    show stL (A 35) (A 0 52 - 1).toNat = _
    rw [hk, show (((j + 1 : Nat) : Int) - 1).toNat = j by omega]
  · rw [← h10]; rfl
  · rw [← h11]; rfl
  · show A 0 54 - 1 = _; rw [h12]
  · show 0 ≤ A 0 52 - 1; omega
  · show A 33 o + (A 0 52 - 1) ≤ q; omega
  · show A 0 53 - 1 = cntB S; omega
theorem pT5 {d : Nat} (hd : 3 ≤ d) {Q : Option Value → xM → Prop} {m : Nat} {Φ : (Nat → Nat → Int32) → xM} (hΦ : MLaw m Φ) {A0 A : Nat → Int → Int} {t : Int → Int} {n o : Int} {S S' out : List Int} {F : Int → Int} {op p x2 : Int} (hT : TapeB t) (hn : n ≤ 160) (ho : 0 ≤ o ∧ o < 12) (h : PS A0 t n o A S out F op p) (h2 : x2 = 0 ∨ x2 = 1) (hop : cntO S + cntB S ≤ op ∧ op ≤ 5) (hc : tkC t n p = 41) (hS : popS 1 S = -10 :: S')
    (hQ : ∀ A2, PS A0 t n o A2 (popS 7 S') ((popR 7 S').reverse ++ ((popR 1 S).reverse ++ out)) F (op - cntO (popR 1 S) - 1 - cntO (popR 7 S')) (tkE t n p) → wpE (xT 178) (xev xT d) Q (36, [(0, .ref m), (1, .int (iz 0)), (2, .int (iz x2))], [], Φ (mI A2))) : wpE (xT 178) (xev xT d) Q (36, [(0, .ref m), (1, .int (iz 0)), (2, .int (iz x2))], [], Φ (mI A)) := by
  have rr : Rg (0 : Int) ∧ Rg x2 := ⟨by decide, by rcases h2 with e | e <;> subst e <;> decide⟩
  have hk := (tok_is h.2.1).2.2.2.1.mpr hc
  have hk9 : ¬ (A 0 47 = 4 ∧ A 0 48 = 59) := fun q => by have := (tok_is h.2.1).2.2.2.2.mp q; omega
  obtain ⟨hB, hcur, h15, hp⟩ := h
  have te := tkE_b (t := t) (n := n) (p := p) hp.2
  have hB' := hB
  obtain ⟨g1, -, -, -, ⟨u5, u6, u7, u8⟩, u9, -, -, g12, g13, g14, g16, g17⟩ := hB'
  have hpop := cntO_pop (l := 1) S
  rw [hS] at hpop
  have hpop1 : cntO (popR 1 S) + cntO S' = cntO S := by
    have e : cntO (-10 :: S') = 0 + cntO S' := rfl
    omega
  have hnn := cntO_nn S'
  have hn1 := cntO_nn (popR 1 S)
  have hbp := cntB_pop (l := 1) (by decide) S
  rw [hS] at hbp
  have hbp1 : 1 + cntB S' = cntB S := hbp
  have hbn := cntB_nn S'
  have hpop7 := cntO_pop (l := 7) S'
  have hn7 := cntO_nn (popS 7 S')
  refine V178_36 hd hΦ g1 rr ⟨fun _ => ⟨fun _ => ⟨fun q => absurd hk q, fun _ => ⟨fun q => absurd q (by omega), fun _ => ⟨by decide, by omega, by omega, by rw [u7]; omega, by rw [u9, g12]; omega, fun A1 hR1 hS1 => ?_⟩⟩⟩, fun q => absurd q hk9⟩, fun q => absurd rfl q⟩
  have hP1 := hB.st (by decide) hR1 hS1
  rw [hS] at hP1
  have hP2 := hP1.cl (w := 0) (by omega) (by omega) (by omega)
  have hP1' := hP1
  obtain ⟨v1, -, -, -, ⟨v5, v6, v7, v8⟩, v9, -, -, v12, v13, v14, v16, v17⟩ := hP1'
  have hP2' := hP2.1
  obtain ⟨y1, -, -, -, -, y9, -⟩ := hP2'
  refine ⟨by omega, by omega, by have e : A1 0 53 = 1 + cntB S' := v17; omega, by decide, by omega, by omega, by rw [v7]; omega, by rw [y9, v12]; omega, fun A2 hR2 hS2 => ?_⟩
  have hP3 := hP2.1.st (by decide) hR2 hS2
  have hP3' := hP3
  obtain ⟨-, -, -, -, ⟨z5, z6, z7, z8⟩, -⟩ := hP3'
  exact ⟨by rw [z5]; exact hT, by omega, by omega, by omega, fun A3 hR3 hp3 => hQ A3 (hP3.nx (by omega) hR3 hp3.1 hp3.2)⟩
def sgC (c : Int) : Int := if c = 202 then -1 else if c = 203 then -2 else if c = 60 then -4 else if c = 61 then -5 else if c = 43 then -6 else if c = 45 then -7 else if c = 42 then -8 else 0
theorem sign_is {A : Nat → Int → Int} {t : Int → Int} {n p : Int} (h : Cur A t n p) : m_signOf A = sgC (tkC t n p) := by
  obtain ⟨-, -, t3, t4, -, -⟩ := h.tok
  unfold m_signOf sgC
  simp only [t3 2 (by decide) (by decide), t3 3 (by decide) (by decide), t4 60 (by decide), t4 61 (by decide), t4 43 (by decide), t4 45 (by decide), t4 42 (by decide)]
  rfl
theorem pT8 {d : Nat} (hd : 3 ≤ d) {Q : Option Value → xM → Prop} {m : Nat} {Φ : (Nat → Nat → Int32) → xM} (hΦ : MLaw m Φ) {A0 A : Nat → Int → Int} {t : Int → Int} {n o : Int} {S out : List Int} {F : Int → Int} {op p x2 : Int} (h : PS A0 t n o A S out F op p) (h2 : x2 = 0 ∨ x2 = 1) (hb : cntB S ≤ 5)
    (hc : (tkC t n p = 41 ∧ cntB S = 0) ∨ (¬ tkC t n p = 41 ∧ ¬ tkC t n p = 59 ∧ (sgC (tkC t n p) = 0 ∨ ((tkC t n p = 60 ∨ tkC t n p = 61) ∧ ¬ F (cntB S) = 0)))) (hQ : Q (some (.int (iz 0))) (Φ (mI A))) : wpE (xT 178) (xev xT d) Q (36, [(0, .ref m), (1, .int (iz 0)), (2, .int (iz x2))], [], Φ (mI A)) := by
  have rr : Rg (0 : Int) ∧ Rg x2 := ⟨by decide, by rcases h2 with e | e <;> subst e <;> decide⟩
  obtain ⟨k1, k2, k3, k4, k5⟩ := tok_is h.2.1
  have es := sign_is h.2.1
  have e53 : A 0 53 = cntB S := h.1.2.2.2.2.2.2.2.2.2.2.2.2
  have e36 : A 36 = F := h.1.2.2.2.2.2.2.2.1
  have hbn := cntB_nn S
  have n9 : ¬ (A 0 47 = 4 ∧ A 0 48 = 59) := fun q => by
    have := k5.mp q
    rcases hc with z | z
    · omega
    · exact z.2.1 this
  refine V178_36 hd hΦ h.1.1 rr ⟨fun _ => ⟨fun _ => ⟨fun q => ?_, fun q => ⟨fun _ => hQ, fun q2 => ?_⟩⟩, fun q => absurd q n9⟩, fun q => absurd rfl q⟩
  · have z : ¬ tkC t n p = 41 ∧ ¬ tkC t n p = 59 ∧ (sgC (tkC t n p) = 0 ∨ ((tkC t n p = 60 ∨ tkC t n p = 61) ∧ ¬ F (cntB S) = 0)) := by
      rcases hc with z | z
      · exact absurd (k4.mpr z.1) q
      · exact z
    rw [es]
    refine ⟨by unfold sgC; (repeat' split) <;> decide, fun _ => hQ, fun q2 => ?_⟩
    rcases z.2.2 with y | y
    · exact absurd y q2
    · have er : m_rank (sgC (tkC t n p)) = 4 := by rcases y.1 with e | e <;> rw [e] <;> decide
      rw [er, e53, e36]
      exact ⟨fun _ => ⟨⟨hbn, by omega⟩, fun q3 => absurd q3 y.2, fun _ => hQ⟩, fun q3 => absurd rfl q3⟩
  · exact absurd (show A 0 53 = 0 by
      rcases hc with z | z
      · rw [e53]; exact z.2
      · exact absurd (k4.mp q) z.1) q2
theorem PB.fl {A0 A : Nat → Int → Int} {t : Int → Int} {n o v : Int} {S out : List Int} {F : Int → Int} {op q : Int} (h : PB A0 t n o A S out F op q) (hv : Rg v) : PB A0 t n o (UA A 36 (A 0 53) v) S out (fun i => if i = cntB S then v else F i) op q := by
  obtain ⟨h1, h2, h3, h4, ⟨h5, h6, h7, h8⟩, h9, h10, h11, h12, h13, h14, h15, h16⟩ := h
  refine ⟨rg_UA h1 hv, h2.row (by decide) (by decide), h3, h4, ⟨h5, h6, h7, h8⟩, by rw [← h9]; rfl, by rw [← h10]; rfl, ?_, h12, h13, h14, h15, h16⟩
  funext i
  show (if (36 : Nat) = 36 ∧ i = A 0 53 then v else A 36 i) = _
  rw [h16, h11]
  by_cases c : i = cntB S
  · rw [if_pos ⟨rfl, c⟩, if_pos c]
  · rw [if_neg (fun q => c q.2), if_neg c]
theorem pSign {d : Nat} {Q : Option Value → xM → Prop} {m : Nat} {Φ : (Nat → Nat → Int32) → xM} {A0 A : Nat → Int → Int} {t : Int → Int} {n o : Int} {S out : List Int} {F : Int → Int} {op p w r v : Int} (hT : TapeB t) (hn : n ≤ 160) (ho : 0 ≤ o ∧ o < 12) (h : PS A0 t n o A S out F op p) (hlt : tkB t n p < n) (hop : cntO S ≤ op ∧ op ≤ 5) (hv : Rg v) (hw : Rg w) (hw2 : ¬ w = -10 ∧ ¬ w = -3 ∧ ¬ w = -9) (hr : 1 ≤ r ∧ r ≤ 7)
    (hQ : ∀ A2, PS A0 t n o A2 (w :: popS r S) ((popR r S).reverse ++ out) (fun i => if i = cntB S then v else F i) (op - cntO (popR r S)) (tkE t n p) → wpE (xT 178) (xev xT d) Q (36, [(0, .ref m), (1, .int (iz 1)), (2, .int (iz (if 3 ≤ r then 0 else 1)))], [], Φ (mI A2))) :
    (1 ≤ r ∧ r ≤ 7) ∧ (0 ≤ (A 0 52) ∧ (A 0 52) ≤ 161) ∧ (0 ≤ (A 0 55) ∧ (A 0 55) < 12) ∧ (0 ≤ (A 33 (A 0 55)) ∧ (A 33 (A 0 55)) + (A 0 52) ≤ 160) ∧ (cntO (popR r (wts (UA A 36 (A 0 53) v))) ≤ (A 0 54) ∧ (A 0 54) ≤ 5) ∧ (∀ (A_1 : Nat → Int → Int), RG A_1 → (SetP r (UA A 36 (A 0 53) v) A_1) → (0 ≤ A_1 0 52 ∧ A_1 0 52 < 161) ∧ (0 ≤ A_1 0 54 ∧ A_1 0 54 ≤ 5) ∧ (((3 ≤ r) → (TapeB ((m_hold A_1 w) 1)) ∧ (0 ≤ (m_hold A_1 w) 0 46) ∧ ((m_hold A_1 w) 0 46 ≤ (m_hold A_1 w) 0 1) ∧ ((m_hold A_1 w) 0 1 ≤ 160) ∧ (∀ (A_2 : Nat → Int → Int), RG A_2 → (Fr [] [46, 47, 48, 49] (m_hold A_1 w) A_2 ∧ Cur A_2 ((m_hold A_1 w) 1) ((m_hold A_1 w) 0 1) ((m_hold A_1 w) 0 46)) → wpE (xT 178) (xev xT d) Q (36, [(0, .ref m), (1, .int (iz 1)), (2, .int (iz 0))], [], Φ (mI A_2)))) ∧ (¬ (3 ≤ r) → (TapeB ((m_hold A_1 w) 1)) ∧ (0 ≤ (m_hold A_1 w) 0 46) ∧ ((m_hold A_1 w) 0 46 ≤ (m_hold A_1 w) 0 1) ∧ ((m_hold A_1 w) 0 1 ≤ 160) ∧ (∀ (A_2 : Nat → Int → Int), RG A_2 → (Fr [] [46, 47, 48, 49] (m_hold A_1 w) A_2 ∧ Cur A_2 ((m_hold A_1 w) 1) ((m_hold A_1 w) 0 1) ((m_hold A_1 w) 0 46)) → wpE (xT 178) (xev xT d) Q (36, [(0, .ref m), (1, .int (iz 1)), (2, .int (iz 1))], [], Φ (mI A_2)))))) := by
  obtain ⟨hB, -, h15, hp⟩ := h
  have te := tkE_b (t := t) (n := n) (p := p) hp.2
  have hP := hB.fl hv
  have hP' := hP
  obtain ⟨-, -, -, -, -, u9, -⟩ := hP'
  have hB' := hB
  obtain ⟨-, -, -, -, ⟨-, -, u7, -⟩, -, -, -, g12, g13, g14, g16, -⟩ := hB'
  have hpop := cntO_pop (l := r) S
  have hnn := cntO_nn (popS r S)
  have hn1 := cntO_nn (popR r S)
  refine ⟨hr, by omega, by rw [u7]; exact ho, by rw [u7]; omega, by rw [u9, g12]; omega, fun A1 hR1 hS1 => ?_⟩
  have hP1 := hP.st hr.1 hR1 hS1
  have e9 : A1 33 o + A1 0 52 = A 33 o + A 0 52 := by
    have := hS1.2.2.2.2.2.2.2.2
    have e : (UA A 36 (A 0 53) v) 0 55 = o := u7
    rw [e] at this
    exact this
  have hP1' := hP1
  obtain ⟨-, -, -, -, -, -, -, -, v12, v13, v14, v16, -⟩ := hP1'
  have hn0 : 0 ≤ op - cntO (popR r S) := by have := cntO_nn S; omega
  have hP2 := hP1.hold (w := w) hw hw2.1 (by omega) (by omega) (by omega)
  rw [if_neg (fun q => by rcases q with e | e; exact hw2.2.1 e; exact hw2.2.2 e), Int.add_zero] at hP2
  have hP2' := hP2
  obtain ⟨-, -, -, -, ⟨w5, w6, w7, w8⟩, -⟩ := hP2'
  refine ⟨by omega, by omega, fun c => ⟨by rw [w5]; exact hT, by omega, by omega, by omega, fun A2 hR2 hp2 => ?_⟩, fun c => ⟨by rw [w5]; exact hT, by omega, by omega, by omega, fun A2 hR2 hp2 => ?_⟩⟩
  · have := hQ A2 (hP2.nx (by omega) hR2 hp2.1 hp2.2)
    rw [if_pos c] at this
    exact this
  · have := hQ A2 (hP2.nx (by omega) hR2 hp2.1 hp2.2)
    rw [if_neg c] at this
    exact this
def flN (r f : Int) : Int := if r = 4 then 1 else if r ≤ 2 then 0 else if f = 0 then 0 else 1
theorem sgC_b {c : Int} (h : ¬ sgC c = 0) : Rg (sgC c) ∧ (¬ sgC c = -10 ∧ ¬ sgC c = -3 ∧ ¬ sgC c = -9) ∧ 1 ≤ m_rank (sgC c) ∧ m_rank (sgC c) ≤ 7 ∧ ¬ c = 41 ∧ ¬ c = 59 ∧ ¬ c = 401 := by
  unfold sgC at h ⊢
  (repeat' split) <;> first | (exfalso; simp_all; done) | (refine ⟨by decide, by decide, by decide, by decide, by omega, by omega, by omega⟩)
theorem pT6 {d : Nat} (hd : 3 ≤ d) {Q : Option Value → xM → Prop} {m : Nat} {Φ : (Nat → Nat → Int32) → xM} (hΦ : MLaw m Φ) {A0 A : Nat → Int → Int} {t : Int → Int} {n o : Int} {S out : List Int} {F : Int → Int} {op p x2 : Int} (hT : TapeB t) (hn : n ≤ 160) (ho : 0 ≤ o ∧ o < 12) (h : PS A0 t n o A S out F op p) (h2 : x2 = 0 ∨ x2 = 1) (hop : cntO S ≤ op ∧ op ≤ 5) (hb : cntB S ≤ 5)
    (hc : ¬ sgC (tkC t n p) = 0) (hf : m_rank (sgC (tkC t n p)) = 4 → F (cntB S) = 0)
    (hQ : ∀ A2, PS A0 t n o A2 (sgC (tkC t n p) :: popS (m_rank (sgC (tkC t n p))) S) ((popR (m_rank (sgC (tkC t n p))) S).reverse ++ out) (fun i => if i = cntB S then flN (m_rank (sgC (tkC t n p))) (F (cntB S)) else F i) (op - cntO (popR (m_rank (sgC (tkC t n p))) S)) (tkE t n p) → wpE (xT 178) (xev xT d) Q (36, [(0, .ref m), (1, .int (iz 1)), (2, .int (iz (if 3 ≤ m_rank (sgC (tkC t n p)) then 0 else 1)))], [], Φ (mI A2))) : wpE (xT 178) (xev xT d) Q (36, [(0, .ref m), (1, .int (iz 0)), (2, .int (iz x2))], [], Φ (mI A)) := by
  have rr : Rg (0 : Int) ∧ Rg x2 := ⟨by decide, by rcases h2 with e | e <;> subst e <;> decide⟩
  obtain ⟨k1, k2, k3, k4, k5⟩ := tok_is h.2.1
  have es := sign_is h.2.1
  obtain ⟨c1, c2, c3, c4, c5, c6, c7⟩ := sgC_b hc
  have hlt := tkC_lt (t := t) (n := n) (p := p) c7
  have e53 : A 0 53 = cntB S := h.1.2.2.2.2.2.2.2.2.2.2.2.2
  have e36 : A 36 = F := h.1.2.2.2.2.2.2.2.1
  have hbn := cntB_nn S
  have i53 : 0 ≤ A 0 53 ∧ A 0 53 < 7 := by rw [e53]; omega
  have ef : A 36 (A 0 53) = F (cntB S) := by rw [e36, e53]
  have n9 : ¬ (A 0 47 = 4 ∧ A 0 48 = 59) := fun q => c6 (k5.mp q)
  have n1 : ¬ (A 0 47 = 4 ∧ A 0 48 = 41) := fun q => c5 (k4.mp q)
  have tail := fun (v : Int) (hv : Rg v) (e : flN (m_rank (sgC (tkC t n p))) (F (cntB S)) = v) => pSign (m := m) (Φ := Φ) (d := d) (Q := Q) (w := sgC (tkC t n p)) (r := m_rank (sgC (tkC t n p))) (v := v) hT hn ho h hlt hop hv c1 c2 ⟨c3, c4⟩ (by rw [← e]; exact hQ)
  generalize sgC (tkC t n p) = w at *
  refine V178_36 hd hΦ h.1.1 rr ⟨fun _ => ⟨fun _ => ⟨fun _ => ?_, fun q => absurd q n1⟩, fun q => absurd q n9⟩, fun q => absurd rfl q⟩
  rw [es, ef]
  refine ⟨c1, fun q => absurd q hc, fun _ => ⟨fun z => ⟨i53, fun _ => ⟨fun _ => tail 1 (by decide) (by unfold flN; rw [if_pos z]), fun q => absurd z q⟩, fun q => absurd (hf z) q⟩, fun z => ⟨fun q => absurd q z, fun _ => ⟨fun z2 => ⟨i53, tail 0 (by decide) (by unfold flN; rw [if_neg z, if_pos z2])⟩, fun z2 => ⟨i53, fun z3 => tail 0 (by decide) (by unfold flN; rw [if_neg z, if_neg z2, if_pos z3]), fun z3 => tail 1 (by decide) (by unfold flN; rw [if_neg z, if_neg z2, if_neg z3])⟩⟩⟩⟩⟩
