theorem tok_is {A : Nat → Int → Int} {t : Int → Int} {n p : Int} (h : Cur A t n p) : ((A 0 47 = 3 ∧ A 0 48 = 4) ↔ tkC t n p = 204) ∧ ((A 0 47 = 4 ∧ A 0 48 = 45) ↔ tkC t n p = 45) ∧ ((A 0 47 = 4 ∧ A 0 48 = 40) ↔ tkC t n p = 40) ∧ ((A 0 47 = 4 ∧ A 0 48 = 41) ↔ tkC t n p = 41) ∧ ((A 0 47 = 4 ∧ A 0 48 = 59) ↔ tkC t n p = 59) := by
  obtain ⟨-, -, t3, t4, -, -⟩ := h.tok
  exact ⟨t3 4 (by decide) (by decide), t4 45 (by decide), t4 40 (by decide), t4 41 (by decide), t4 59 (by decide)⟩
theorem pHold {d : Nat} {Q : Option Value → xM → Prop} {m : Nat} {Φ : (Nat → Nat → Int32) → xM} {A0 A : Nat → Int → Int} {t : Int → Int} {n o : Int} {S out : List Int} {F : Int → Int} {op p x1 x2 w : Int} (hT : TapeB t) (hn : n ≤ 160) (h : PS A0 t n o A S out F op p) (hlt : tkB t n p < n) (hop : 0 ≤ op ∧ op < 5) (hw : w = -3 ∨ w = -9)
    (hQ : ∀ A2, PS A0 t n o A2 (w :: S) out F (op + 1) (tkE t n p) → wpE (xT 178) (xev xT d) Q (36, [(0, .ref m), (1, .int (iz x1)), (2, .int (iz x2))], [], Φ (mI A2))) :
    (0 ≤ A 0 52 ∧ A 0 52 < 161) ∧ (0 ≤ A 0 54 ∧ A 0 54 ≤ 5) ∧ (TapeB ((m_hold A w) 1)) ∧ (0 ≤ (m_hold A w) 0 46) ∧ ((m_hold A w) 0 46 ≤ (m_hold A w) 0 1) ∧ ((m_hold A w) 0 1 ≤ 160) ∧ (∀ (A_1 : Nat → Int → Int), RG A_1 → (Fr [] [46, 47, 48, 49] (m_hold A w) A_1 ∧ Cur A_1 ((m_hold A w) 1) ((m_hold A w) 0 1) ((m_hold A w) 0 46)) → wpE (xT 178) (xev xT d) Q (36, [(0, .ref m), (1, .int (iz x1)), (2, .int (iz x2))], [], Φ (mI A_1))) := by
  obtain ⟨hB, -, h15, hp⟩ := h
  have te := tkE_b (t := t) (n := n) (p := p) hp.2
  have hB' := hB
  obtain ⟨-, -, -, -, -, -, -, -, g12, g13, g14, g16, -⟩ := hB'
  have hP := hB.hold (w := w) (by rcases hw with e | e <;> subst e <;> decide) (by rcases hw with e | e <;> subst e <;> decide) (by omega) (by omega) (by omega)
  rw [if_pos hw] at hP
  have hP' := hP
  obtain ⟨-, -, -, -, ⟨w5, w6, w7, w8⟩, -⟩ := hP'
  exact ⟨by omega, by omega, by rw [w5]; exact hT, by omega, by omega, by omega, fun A2 hR2 hp2 => hQ A2 (hP.nx (by omega) hR2 hp2.1 hp2.2)⟩
theorem pT2 {d : Nat} (hd : 3 ≤ d) {Q : Option Value → xM → Prop} {m : Nat} {Φ : (Nat → Nat → Int32) → xM} (hΦ : MLaw m Φ) {A0 A : Nat → Int → Int} {t : Int → Int} {n o : Int} {S out : List Int} {F : Int → Int} {op p : Int} (hT : TapeB t) (hn : n ≤ 160) (h : PS A0 t n o A S out F op p) (hop : 0 ≤ op ∧ op < 5) (hc : tkC t n p = 204)
    (hQ : ∀ A2, PS A0 t n o A2 (-3 :: S) out F (op + 1) (tkE t n p) → wpE (xT 178) (xev xT d) Q (36, [(0, .ref m), (1, .int (iz 1)), (2, .int (iz 1))], [], Φ (mI A2))) : wpE (xT 178) (xev xT d) Q (36, [(0, .ref m), (1, .int (iz 1)), (2, .int (iz 1))], [], Φ (mI A)) := by
  have hah : m_ahead A 1 := (ahead_iff h).mpr (Or.inr (Or.inr ⟨by omega, Or.inl ⟨hc, by decide⟩⟩))
  have hlt := tkC_lt (t := t) (n := n) (p := p) (by omega)
  have hk := (tok_is h.2.1).1.mpr hc
  exact V178_36 hd hΦ h.1.1 ⟨by decide, by decide⟩ ⟨fun q => absurd q (by decide), fun _ => ⟨Or.inr rfl, fun q => absurd hah q, fun _ => ⟨fun q => absurd hk q, fun _ => pHold (w := -3) hT hn h hlt hop (Or.inl rfl) hQ⟩⟩⟩
theorem pT3 {d : Nat} (hd : 3 ≤ d) {Q : Option Value → xM → Prop} {m : Nat} {Φ : (Nat → Nat → Int32) → xM} (hΦ : MLaw m Φ) {A0 A : Nat → Int → Int} {t : Int → Int} {n o : Int} {S out : List Int} {F : Int → Int} {op p x2 : Int} (hT : TapeB t) (hn : n ≤ 160) (h : PS A0 t n o A S out F op p) (h2 : x2 = 0 ∨ x2 = 1) (hop : 0 ≤ op ∧ op < 5) (hc : tkC t n p = 45)
    (hQ : ∀ A2, PS A0 t n o A2 (-9 :: S) out F (op + 1) (tkE t n p) → wpE (xT 178) (xev xT d) Q (36, [(0, .ref m), (1, .int (iz 1)), (2, .int (iz 0))], [], Φ (mI A2))) : wpE (xT 178) (xev xT d) Q (36, [(0, .ref m), (1, .int (iz 1)), (2, .int (iz x2))], [], Φ (mI A)) := by
  have rr : Rg (1 : Int) ∧ Rg x2 := ⟨by decide, by rcases h2 with e | e <;> subst e <;> decide⟩
  have hah : m_ahead A x2 := (ahead_iff h).mpr (Or.inr (Or.inr ⟨by omega, Or.inr (Or.inr hc)⟩))
  have hlt := tkC_lt (t := t) (n := n) (p := p) (by omega)
  obtain ⟨k1, k2, -⟩ := tok_is h.2.1
  have hk := k2.mpr hc
  have hk1 : ¬ (A 0 47 = 3 ∧ A 0 48 = 4) := fun q => by have := k1.mp q; omega
  exact V178_36 hd hΦ h.1.1 rr ⟨fun q => absurd q (by decide), fun _ => ⟨h2, fun q => absurd hah q, fun _ => ⟨fun _ => ⟨fun q => absurd hk q, fun _ => pHold (w := -9) hT hn h hlt hop (Or.inr rfl) hQ⟩, fun q => absurd q hk1⟩⟩⟩
