def eqS (M M' : Nat → Int → Int) (s : Int) : Prop := M' 2 s = M 2 s ∧ M' 3 s = M 3 s ∧ M' 6 s = M 6 s ∧ ∀ k : Int, 0 ≤ k → k < 10 → M' 4 (10 * s + k) = M 4 (10 * s + k) ∧ M' 5 (10 * s + k) = M 5 (10 * s + k)
def eqB (M M' : Nat → Int → Int) (b : Int) : Prop := M' 7 b = M 7 b ∧ M' 8 b = M 8 b ∧ M' 9 b = M 9 b ∧ ∀ f : Int, 0 ≤ f → f < 10 → M' 10 (10 * b + f) = M 10 (10 * b + f)
def eqK (M M' : Nat → Int → Int) (k : Int) : Prop := M' 11 k = M 11 k ∧ M' 12 k = M 12 k ∧ M' 13 k = M 13 k ∧ M' 14 k = M 14 k ∧ M' 15 k = M 15 k ∧ M' 16 k = M 16 k ∧ M' 17 k = M 17 k ∧ M' 18 k = M 18 k ∧ M' 19 k = M 19 k
def eqL (M M' : Nat → Int → Int) (k : Int) : Prop := M' 20 k = M 20 k ∧ M' 21 k = M 21 k ∧ M' 22 k = M 22 k ∧ M' 23 k = M 23 k ∧ M' 24 k = M 24 k ∧ M' 25 k = M 25 k ∧ M' 28 k = M 28 k ∧ ∀ p : Int, 0 ≤ p → p < 24 → M' 26 (24 * k + p) = M 26 (24 * k + p) ∧ M' 27 (24 * k + p) = M 27 (24 * k + p)
def eqT (M M' : Nat → Int → Int) (t : Int) : Prop := ∀ q : Int, 0 ≤ q → q ≤ 1 → M' 33 (2 * t + q) = M 33 (2 * t + q) ∧ ∀ i : Int, 0 ≤ i → i < 160 → M' 34 (160 * (2 * t + q) + i) = M 34 (160 * (2 * t + q) + i)
def eqH (M M' : Nat → Int → Int) (s : Int) : Prop := M' 43 s = M 43 s ∧ M' 44 s = M 44 s ∧ ∀ i : Int, 0 ≤ i → i < 40 → M' 45 (40 * s + i) = M 45 (40 * s + i)
def AgR (W W' : gW) (P P' : Nat → Int → Nat) (A A' : Nat → Int → Int) (x n : Nat) : Prop := ∀ c, x ≤ c → c < x + n → gK W' c = gK W c ∧ gL W' c = gL W c ∧ P' c = P c ∧ A' c = A c
section SAME
variable {W W' : gW} {P P' : Nat → Int → Nat} {A A' M M' : Nat → Int → Int}
theorem AgR.sub {x n y m : Nat} (h : AgR W W' P P' A A' x n) (h1 : x ≤ y) (h2 : y + m ≤ x + n) : AgR W W' P P' A A' y m := fun c q1 q2 => h c (by omega) (by omega)
theorem eqS_r (e : ∀ c ∈ [2, 3, 4, 5, 6], M' c = M c) (s : Int) : eqS M M' s := by
  have e2 := e 2 (by decide)
  have e3 := e 3 (by decide)
  have e4 := e 4 (by decide)
  have e5 := e 5 (by decide)
  have e6 := e 6 (by decide)
  unfold eqS; rw [e2, e3, e4, e5, e6]; exact ⟨rfl, rfl, rfl, fun _ _ _ => ⟨rfl, rfl⟩⟩
theorem eqB_r (e : ∀ c ∈ [7, 8, 9, 10], M' c = M c) (b : Int) : eqB M M' b := by
  have e2 := e 7 (by decide)
  have e3 := e 8 (by decide)
  have e4 := e 9 (by decide)
  have e5 := e 10 (by decide)
  unfold eqB; rw [e2, e3, e4, e5]; exact ⟨rfl, rfl, rfl, fun _ _ _ => rfl⟩
theorem eqK_r (e : ∀ c ∈ [11, 12, 13, 14, 15, 16, 17, 18, 19], M' c = M c) (k : Int) : eqK M M' k := by
  unfold eqK
  rw [e 11 (by decide), e 12 (by decide), e 13 (by decide), e 14 (by decide), e 15 (by decide), e 16 (by decide), e 17 (by decide), e 18 (by decide), e 19 (by decide)]
  exact ⟨rfl, rfl, rfl, rfl, rfl, rfl, rfl, rfl, rfl⟩
theorem eqL_r (e : ∀ c ∈ [20, 21, 22, 23, 24, 25, 26, 27, 28], M' c = M c) (k : Int) : eqL M M' k := by
  unfold eqL
  rw [e 20 (by decide), e 21 (by decide), e 22 (by decide), e 23 (by decide), e 24 (by decide), e 25 (by decide), e 26 (by decide), e 27 (by decide), e 28 (by decide)]
  exact ⟨rfl, rfl, rfl, rfl, rfl, rfl, rfl, fun _ _ _ => ⟨rfl, rfl⟩⟩
theorem eqT_r (e : ∀ c ∈ [33, 34], M' c = M c) (t : Int) : eqT M M' t := by
  unfold eqT
  rw [e 33 (by decide), e 34 (by decide)]
  exact fun _ _ _ => ⟨rfl, fun _ _ _ => rfl⟩
theorem eqH_r (e : ∀ c ∈ [43, 44, 45], M' c = M c) (s : Int) : eqH M M' s := by
  unfold eqH
  rw [e 43 (by decide), e 44 (by decide), e 45 (by decide)]
  exact ⟨rfl, rfl, fun _ _ _ => rfl⟩
theorem cen_eq {s k : Int} (e : eqS M M' s) (h0 : 0 ≤ k) (h1 : k < 10) : m_centre M' s k = m_centre M s k := by
  unfold m_centre
  have e1 : ∀ i : Int, 0 ≤ i → i < 10 → m_w M' s i = m_w M s i := fun i q1 q2 => (e.2.2.2 i q1 q2).2
  rw [e1 k h0 h1, sm_congr (fun i hi => e1 i (by omega) (by omega))]
theorem col_eq {s x : Int} (e : eqS M M' s) (h : 0 ≤ M 2 s ∧ M 2 s ≤ 10) : m_col M' s x = m_col M s x := by
  unfold m_col
  rw [e.1, e.2.1]
  exact cF_congr _ _ _ (Int.le_refl 0) (by omega) (fun i q1 q2 => ⟨(e.2.2.2 i q1 (by omega)).2, (e.2.2.2 i q1 (by omega)).1⟩)
theorem los_eq {k p : Int} (e : eqK M M' k) : m_loses M' k p = m_loses M k p := by
  unfold m_loses; rw [e.2.2.2.2.1, e.2.2.2.2.2.2.2.2]
theorem OSt.same {a : Nat} (h : OSt W P A a) (g : AgR W W' P P' A A' a 5) : OSt W' P' A' a := by
  obtain ⟨a0, b0, c0, d0⟩ := g a (by omega) (by omega)
  obtain ⟨a1, b1, c1, d1⟩ := g (a + 1) (by omega) (by omega)
  obtain ⟨a2, b2, c2, d2⟩ := g (a + 2) (by omega) (by omega)
  obtain ⟨a3, b3, c3, d3⟩ := g (a + 3) (by omega) (by omega)
  obtain ⟨a4, b4, c4, d4⟩ := g (a + 4) (by omega) (by omega)
  unfold OSt at h ⊢
  simp only [a0, b0, c0, d0, a1, b1, c1, d1, a2, b2, c2, d2, a3, b3, c3, d3, a4, b4, c4, d4]
  exact h
theorem OBt.same {a : Nat} (h : OBt W P A a) (g : AgR W W' P P' A A' a 2) : OBt W' P' A' a := by
  obtain ⟨a0, b0, c0, d0⟩ := g a (by omega) (by omega)
  obtain ⟨a1, b1, c1, d1⟩ := g (a + 1) (by omega) (by omega)
  unfold OBt at h ⊢
  simp only [a0, b0, c0, d0, a1, b1, c1, d1]
  exact h
theorem OKi.same {a : Nat} (h : OKi W P A a) (g : AgR W W' P P' A A' a 4) : OKi W' P' A' a := by
  obtain ⟨a0, b0, c0, d0⟩ := g a (by omega) (by omega)
  obtain ⟨a1, b1, c1, d1⟩ := g (a + 1) (by omega) (by omega)
  obtain ⟨a2, b2, c2, d2⟩ := g (a + 1 + 1) (by omega) (by omega)
  obtain ⟨a3, b3, c3, d3⟩ := g (a + 1 + 2) (by omega) (by omega)
  unfold OKi OLg at h ⊢
  simp only [a0, b0, c0, d0, a1, b1, c1, d1, a2, b2, c2, d2, a3, b3, c3, d3]
  exact h
theorem OTx.same {a : Nat} (h : OTx W P a) (g : AgR W W' P P' A A' a 3) : OTx W' P' a := by
  obtain ⟨a0, b0, c0, d0⟩ := g a (by omega) (by omega)
  obtain ⟨a1, b1, c1, d1⟩ := g (a + 1) (by omega) (by omega)
  obtain ⟨a2, b2, c2, d2⟩ := g (a + 2) (by omega) (by omega)
  unfold OTx at h ⊢
  simp only [a0, b0, c0, a1, b1, c1, a2, b2, c2]
  exact h
theorem OSh.same {a : Nat} (h : OSh W P a) (g : AgR W W' P P' A A' a 2) : OSh W' P' a := by
  obtain ⟨a0, b0, c0, d0⟩ := g a (by omega) (by omega)
  obtain ⟨a1, b1, c1, d1⟩ := g (a + 1) (by omega) (by omega)
  unfold OSh at h ⊢
  simp only [a0, b0, c0, a1, b1, c1]
  exact h
theorem RSe.same {s : Int} (h : RSe W P A M s) (g : AgR W W' P P' A A' (qS s) 5) (e : eqS M M' s) : RSe W' P' A' M' s := by
  obtain ⟨hO, ⟨q0, q1, q2⟩, q3, q4⟩ := h
  have hb := hO.2.2.1.1
  obtain ⟨-, -, c0, d0⟩ := g (qS s) (by omega) (by omega)
  obtain ⟨-, -, c1, d1⟩ := g (qS s + 1) (by omega) (by omega)
  obtain ⟨-, -, c2, d2⟩ := g (qS s + 2) (by omega) (by omega)
  obtain ⟨-, -, c3, d3⟩ := g (qS s + 3) (by omega) (by omega)
  obtain ⟨-, -, c4, d4⟩ := g (qS s + 4) (by omega) (by omega)
  refine ⟨hO.same g, ⟨by rw [d0, e.1, q0], by rw [d0, e.2.1, q1], by rw [d0, e.2.2.1, q2]⟩, fun k k0 k1 => ?_, fun x x0 x1 => ?_⟩
  · rw [e.1] at k1
    obtain ⟨z1, z2⟩ := e.2.2.2 k k0 (by omega)
    rw [d1, d2, d3, z1, z2, cen_eq e k0 (by omega)]
    exact q3 k k0 k1
  · rw [e.2.1] at x1
    rw [d4, col_eq e (by omega)]
    exact q4 x x0 x1
theorem RBo.same {b : Int} (h : RBo W P A M b) (g : AgR W W' P P' A A' (qB b) 2) (e : eqB M M' b) : RBo W' P' A' M' b := by
  obtain ⟨hO, ⟨q0, q1, q2⟩, q3, q4⟩ := h
  have hb := hO.2.2.2.1
  obtain ⟨-, -, c0, d0⟩ := g (qB b) (by omega) (by omega)
  obtain ⟨-, -, c1, d1⟩ := g (qB b + 1) (by omega) (by omega)
  refine ⟨hO.same g, ⟨by rw [d0, e.1, q0], by rw [d0, e.2.1, q1], by rw [d0, e.2.2.1, q2]⟩, fun k k0 k1 => ?_, by rw [c0, e.1]; exact q4⟩
  rw [e.2.2.1] at k1
  rw [d1, e.2.2.2 k k0 (by omega)]
  exact q3 k k0 k1
theorem RWb.same (h : RWb W P A M) (g : AgR W W' P P' A A' 240 2) (h0 : P' 0 15 = P 0 15) (e : M' 0 2 = M 0 2) : RWb W' P' A' M' := by
  obtain ⟨-, -, c0, d0⟩ := g 240 (by omega) (by omega)
  refine ⟨fun z => by rw [h0]; exact h.1 (by omega), fun z => ?_⟩
  obtain ⟨h1, h2, h3, h4, h5⟩ := h.2 (by omega)
  exact ⟨by rw [h0]; exact h1, h2.same g, by rw [d0]; exact h3, by rw [d0]; exact h4, by rw [c0]; exact h5⟩
theorem nd_row {c : Nat} {j : Int} (h : ¬ ((c = 8 ∨ c = 9) ∧ j = 4)) : Nd M c j = M c j := by
  unfold Nd UA
  rw [if_neg (by omega), if_neg (by omega)]
theorem eqS_nd {s : Int} : eqS M (Nd M) s := ⟨nd_row (by omega), nd_row (by omega), nd_row (by omega), fun k _ _ => ⟨nd_row (by omega), nd_row (by omega)⟩⟩
theorem isF_nd {x l : Int} : m_isF (Nd M) 4 x l = false := by
  unfold m_isF
  rw [show Nd M 9 4 = 0 from UA_eq]
  rfl
theorem strd_eq {k : Int} (e : M' 11 k = M 11 k) : strd M' k ↔ strd M k := by unfold strd; rw [e]
theorem NdV.same {k v : Int} (h : NdV M k v) (hk : KiltOK M k) (h0 : 0 < M 0 2 → 0 < M' 0 2 ∧ eqS M M' 0) (e : eqK M M' k) : NdV M' k v := by
  rcases h with h | ⟨h1, h2, A1, k1, b1, s1, hL, hT, hv⟩
  · exact Or.inl h
  · obtain ⟨z0, z1⟩ := h0 h1
    obtain ⟨e11, e12, e13, e14, e15, e16, e17, e18, e19⟩ := e
    have h16 := hk.2.2.2.2.2.1
    refine Or.inr ⟨z0, ?_, A1, k1, b1, s1, ?_, hT, hv⟩
    · unfold m_hasS at h2 ⊢
      rw [strd_eq e11, e16, z1.1]
      exact h2
    · obtain ⟨⟨l1, l2, l3, l4⟩, l5, ⟨l6, l7⟩, ⟨l8, l9, l10⟩, l11⟩ := hL
      have es : strd (Nd M') k ↔ strd (Nd M) k := strd_eq (by rw [nd_row (by omega), nd_row (by omega), e11])
      have ec : ∀ i : Int, 0 ≤ i → i < 10 → m_centre (Nd M') 0 i = m_centre (Nd M) 0 i := fun i q1 q2 => by rw [cen_eq eqS_nd q1 q2, cen_eq eqS_nd q1 q2, cen_eq z1 q1 q2]
      have e9 : Nd M' 16 k = Nd M 16 k := by rw [nd_row (by omega), nd_row (by omega), e16]
      have e99 : Nd M 16 k = M 16 k := nd_row (by omega)
      refine ⟨⟨?_, ?_, ?_, ?_⟩, ?_, ⟨?_, fun x l => ?_⟩, ⟨?_, ?_, fun q => ?_⟩, l11⟩
      · rw [← l1, nd_row (by omega), nd_row (by omega), e11]
      · rw [← l2, nd_row (by omega), nd_row (by omega), e15]
      · rw [← l3, nd_row (by omega), nd_row (by omega), e17]
      · rw [← l4, nd_row (by omega), nd_row (by omega), e18]
      · rw [es]; exact l5
      · rw [← l6]; rfl
      · rw [← l7, isF_nd, isF_nd]
      · rw [← l8, nd_row (by omega), nd_row (by omega), z1.2.1]
      · rw [← l9, ec 0 (by decide) (by decide)]
      · rw [e9, ec _ (by omega) (by omega)]
        exact l10 (es.mp q)
theorem StB.same {a : Nat} (h : StB A a) (g : AgR W W' P P' A A' a 4) : StB A' a := by
  obtain ⟨-, -, -, d0⟩ := g a (by omega) (by omega)
  obtain ⟨-, -, -, d1⟩ := g (a + 1) (by omega) (by omega)
  obtain ⟨-, -, -, d2⟩ := g (a + 1 + 1) (by omega) (by omega)
  intro j
  have := h j
  unfold k_st at this ⊢
  rw [d0, d1, d2]
  exact this
theorem RKn.same {k : Int} (h : RKn A M k) (d0 : A' (qK k) = A (qK k)) (e : eqK M M' k) (e2 : M' 20 k = M 20 k) : RKn A' M' k := by
  obtain ⟨e11, e12, e13, e14, e15, e16, e17, e18, e19⟩ := e
  have es := strd_eq (M := M) (M' := M') e11
  unfold RKn at h ⊢
  rw [d0, e11, e12, e13, e14, e15, e16, e17, e18, e19, e2, es]
  exact h
theorem RKi.same {k : Int} (h : RKi W P A M k) (g : AgR W W' P P' A A' (qK k) 4) (hk : KiltOK M k) (e : eqK M M' k) (el : eqL M M' k) (h0 : 0 < M 0 2 → 0 < M' 0 2 ∧ eqS M M' 0) : RKi W' P' A' M' k := by
  obtain ⟨hO, hB, hn, hU, hL, hN⟩ := h
  obtain ⟨-, -, c0, d0⟩ := g (qK k) (by omega) (by omega)
  obtain ⟨-, -, c1, d1⟩ := g (qK k + 1) (by omega) (by omega)
  obtain ⟨-, -, c2, d2⟩ := g (qK k + 1 + 1) (by omega) (by omega)
  obtain ⟨-, -, c3, d3⟩ := g (qK k + 1 + 2) (by omega) (by omega)
  have h15 := hk.2.2.2.2.1
  refine ⟨hO.same g, hB.same g, hn.same d0 e el.1, fun z => ?_, fun z => ?_, by rw [d0]; exact hN.same hk h0 e⟩
  · rw [c0, d0, el.1]
    exact hU (by rw [← el.1]; exact z)
  · obtain ⟨v1, v2, v3, v4, v5, v6, v7, v8, v9⟩ := hL (by rw [← el.1]; exact z)
    obtain ⟨l20, l21, l22, l23, l24, l25, l28, l26⟩ := el
    obtain ⟨e11, e12, e13, e14, e15, e16, e17, e18, e19⟩ := e
    unfold RKl
    rw [c0, d0, d1, d2, d3, l20, l21, l22, l23, l24, l25, l28, e15, e18]
    refine ⟨v1, v2, v3, v4, v5, v6, v7, v8, fun p p0 p1 => ?_⟩
    obtain ⟨z1, z2⟩ := l26 p p0 (by omega)
    rw [z1, z2]
    exact v9 p p0 p1
theorem upL_eq {f g : Int → Int} : ∀ (n k : Nat), (∀ i : Nat, k ≤ i → i < k + n → f i = g i) → upL f n k = upL g n k := by
  intro n
  induction n with
  | zero => intro k _; rfl
  | succ n ih =>
    intro k h
    show f k :: upL f n (k + 1) = g k :: upL g n (k + 1)
    rw [h k (Nat.le_refl k) (by omega), ih (k + 1) (fun i q1 q2 => h i (by omega) (by omega))]
theorem RTx.same {t : Int} (h : RTx W P A M t) (g : AgR W W' P P' A A' (qT t) 3) (h19 : P' 19 t = P 19 t) (e : eqT M M' t) : RTx W' P' A' M' t := by
  obtain ⟨h1, h2, h3, h4, h5⟩ := h
  obtain ⟨-, b0, c0, d0⟩ := g (qT t) (by omega) (by omega)
  obtain ⟨-, b1, c1, d1⟩ := g (qT t + 1) (by omega) (by omega)
  obtain ⟨-, b2, c2, d2⟩ := g (qT t + 2) (by omega) (by omega)
  refine ⟨by rw [h19]; exact h1, h2.same g, by rw [d0, b1]; exact h3, by rw [b1, b2]; exact h4, fun q q0 q1 => ?_⟩
  obtain ⟨f1, f2, f3, f4, f5⟩ := h5 q q0 q1
  obtain ⟨z1, z2⟩ := e q q0 q1
  have e1 : partK A' W' (qT t) q = partK A W (qT t) q := by unfold partK; rw [d0, d1, b1]
  have e2 : rowL M' (2 * t + q) = rowL M (2 * t + q) := by
    unfold rowL
    rw [z1]
    exact upL_eq _ _ (fun i q1 q2 => z2 i (by omega) (by omega))
  refine ⟨by rw [e1, e2]; exact f1, by rw [e1]; exact f2, by rw [z1]; exact f3, ?_, ?_⟩
  · rw [e2]; exact f4
  · rw [e2]; exact f5
theorem RSh.same {s : Int} (h : RSh W P A M s) (g : AgR W W' P P' A A' (qH s) 2) (hb : M 44 s ≤ 40) (e : eqH M M' s) : RSh W' P' A' M' s := by
  obtain ⟨h1, h2, h3⟩ := h
  obtain ⟨-, -, c0, d0⟩ := g (qH s) (by omega) (by omega)
  obtain ⟨-, -, c1, d1⟩ := g (qH s + 1) (by omega) (by omega)
  refine ⟨h1.same g, by rw [d0, e.1]; exact h2, fun z => ?_⟩
  rw [e.1] at z
  obtain ⟨h4, h5⟩ := h3 z
  refine ⟨by rw [d0, e.2.1]; exact h4, fun i i0 i1 => ?_⟩
  rw [e.2.1] at i1
  rw [d1, e.2.2 i i0 (by omega)]
  exact h5 i i0 i1
theorem SettOK.same {s : Int} (h : SettOK M s) (e : eqS M M' s) : SettOK M' s := by
  obtain ⟨h1, h2, h3, h4, h5⟩ := h
  have ew : ∀ i : Int, 0 ≤ i → i < 10 → m_w M' s i = m_w M s i := fun i q1 q2 => (e.2.2.2 i q1 q2).2
  refine ⟨by rw [e.1]; exact h1, by rw [e.2.1]; exact h2, by rw [e.2.2.1]; exact h3, fun k k0 k1 => ?_, ?_⟩
  · rw [e.1] at k1
    obtain ⟨z1, z2⟩ := e.2.2.2 k k0 (by omega)
    rw [z1, z2]; exact h4 k k0 k1
  · rw [e.2.1, h5]
    unfold m_per
    rw [e.1, e.2.2.1]
    refine sm_congr (fun k hk => ?_)
    rw [ew k (by omega) (by omega)]
theorem BoltOK.same {b : Int} (h : BoltOK M b) (e : eqB M M' b) (h2 : M 0 2 ≤ M' 0 2) : BoltOK M' b := by
  obtain ⟨q1, q2, q3⟩ := h
  refine ⟨by rw [e.1]; omega, by rw [e.2.1]; exact q2, by rw [e.2.2.1]; exact q3⟩
theorem KiltOK.same {k : Int} (h : KiltOK M k) (e : eqK M M' k) (e2 : M' 20 k = M 20 k) : KiltOK M' k := by
  obtain ⟨e11, e12, e13, e14, e15, e16, e17, e18, e19⟩ := e
  unfold KiltOK at h ⊢
  rw [e11, e12, e13, e14, e15, e16, e17, e18, e19, e2]
  exact h
theorem LaidOK.same {k : Int} (h : LaidOK M k) (hk : KiltOK M k) (e : eqK M M' k) (el : eqL M M' k) (h8 : M 0 8 ≤ M' 0 8) : LaidOK M' k := by
  intro z
  have h15 := hk.2.2.2.2.1
  obtain ⟨l20, l21, l22, l23, l24, l25, l28, l26⟩ := el
  rw [l20] at z
  obtain ⟨q1, q2, q3, q4, q5, q6, q7, q8⟩ := h z
  refine ⟨by rw [l20]; omega, by rw [l25]; exact q2, by rw [l21]; exact q3, by rw [l22]; exact q4, by rw [l22, e.2.2.2.2.2.2.2.1]; exact q5, by rw [l23]; exact q6, by rw [l28]; exact q7, fun p p0 p1 => ?_⟩
  rw [e.2.2.2.2.1] at p1
  rw [(l26 p p0 (by omega)).1, los_eq e, l25]
  exact q8 p p0 p1
theorem SheetsOK.same (h : SheetsOK M) (e3 : M' 43 = M 43) (e4 : M' 44 = M 44) : SheetsOK M' := by
  unfold SheetsOK; rw [e3, e4]; exact h
theorem StrA.same (h : StrA A) (e : ∀ c, 501 ≤ c → c ≤ 530 → A' c = A c) : StrA A' := by
  refine ⟨fun j hj k hk => ?_, fun j hj => ?_⟩
  · rw [e (501 + 2 * j) (by omega) (by omega)]; exact h.1 j hj k hk
  · rw [e 530 (by omega) (by omega)]; exact h.2 j hj
theorem TpR.same {t : Int → Int} (h : TpR A t) (e1 : A' 1 = A 1) (e2 : A' 2 = A 2) : TpR A' t := by
  unfold TpR; rw [e1, e2]; exact h
theorem CtO.same (h : CtO P A) (e0 : A' 0 10 = A 0 10 ∧ A' 0 11 = A 0 11 ∧ A' 0 12 = A 0 12) (e : P' 16 = P 16 ∧ P' 17 = P 17 ∧ P' 18 = P 18 ∧ P' 20 = P 20) : CtO P' A' := by
  obtain ⟨z1, z2, z3⟩ := e0
  obtain ⟨y1, y2, y3, y4⟩ := e
  unfold CtO; rw [z1, z2, z3, y1, y2, y3, y4]; exact h
theorem qS_d {s : Int} : qS s = 100 + 10 * s.toNat := rfl
theorem qB_d {s : Int} : qB s = 200 + 10 * s.toNat := rfl
theorem qK_d {s : Int} : qK s = 300 + 10 * s.toNat := rfl
theorem qT_d {s : Int} : qT s = 400 + 10 * s.toNat := rfl
theorem qH_d {s : Int} : qH s = 21 + 2 * s.toNat := rfl
end SAME
