section LINK2
variable {A M : Nat → Int → Int} {k b s : Nat} {kk bb ss : Int}
theorem ykf_m (h : LyM A k b s M kk bb ss) {p : Nat} : ∀ d : Nat, ykf A k s p ≤ ykf A k s (p + d)
  | 0 => Int.le_refl _
  | d + 1 => by
    have ih := ykf_m h (p := p) d
    have e : ykf A k s (p + (d + 1)) = ykX A k s + (sm (fun i => ykw A k i) (p + d) + ykw A k ((p + d : Nat) : Int)) := rfl
    have hw : 0 ≤ ykw A k ((p + d : Nat) : Int) := by
      obtain ⟨-, -, -, -, -, -, h6, -⟩ := h
      unfold ykw; split <;> omega
    unfold ykf at ih ⊢
    rw [show sm (fun i => ykw A k i) (p + (d + 1)) = sm (fun i => ykw A k i) (p + d) + ykw A k ((p + d : Nat) : Int) from rfl]
    omega
theorem lf_E (h : LyM A k b s M kk bb ss) (hT : LyT A k s) {t : Int} : lst (M 3 ss) (A 10 (((A k 4).toNat - 1 : Nat) : Int) + t * A s 1 + A k 6) ((A k 7).tdiv 2) (m_centre M ss 0) = A 8 3 + t * A s 1 := by
  obtain ⟨-, -, -, ⟨q1, q2, -⟩, -, h4, -, h7, hP, -, h0⟩ := h
  have e : A 10 (((A k 4).toNat - 1 : Nat) : Int) + t * A s 1 + A k 6 = ykf A k s ((A k 4).toNat - 1) + A k 6 + t * A s 1 := by rw [hT.2.2 _ (by omega)]; omega
  rw [q1, e, lst_sh, q2, hT.2.1]
  unfold yku k_cen lst ykH
  rw [if_pos ⟨Int.le_refl 0, by omega⟩, Int.tdiv_eq_ediv_of_nonneg h7.1]
theorem x_le (h : LyM A k b s M kk bb ss) (hT : LyT A k s) {p : Nat} (hp : (p : Int) < A k 4) : A 10 p + A k 6 ≤ A 8 3 := by
  have hl := lf_E h hT (t := 0)
  have hm := ykf_m h (p := p) ((A k 4).toNat - 1 - p)
  obtain ⟨-, -, -, ⟨q1, q2, -⟩, -, h4, -, h7, hP, -, h0⟩ := h
  have h1 := lst_le (P := M 3 ss) (x := A 10 (((A k 4).toNat - 1 : Nat) : Int) + 0 * A s 1 + A k 6) (a := (A k 7).tdiv 2) (c := m_centre M ss 0) (by omega)
  rw [hl, hT.2.2 _ (by omega)] at h1
  rw [hT.2.2 p hp]
  rw [show p + ((A k 4).toNat - 1 - p) = (A k 4).toNat - 1 by omega] at hm
  omega
theorem yf_k (h : LyM A k b s M kk bb ss) (hT : LyT A k s) {p r : Nat} {t : Int} (hp : (p : Int) + r = A k 4 - 2) (ih : ∀ m : Int, 1 ≤ m → m ≤ 4 → yG M kk bb ss r (A 10 ((p + 1 : Nat) : Int) + (t + ykl A k p m) * A s 1) = ken A k s (KT A k b s r ((p : Int) + 1) (t + ykl A k p m))) (m : Int) (hm1 : 1 ≤ m) (hm4 : m ≤ 4) : yf M kk bb ss p (A 10 p + t * A s 1) m = if k_cf A k s p m then ken A k s (KT A k b s r ((p : Int) + 1) (t + ykl A k p m)) else 1000000 := by
  have ih' := ih m hm1 hm4
  have ey := yst_k h (p := p) (m := m) (by omega)
  obtain ⟨⟨m1, m2, m3, m4⟩, -, -, -, -, h4, -⟩ := h
  have ea : A 10 p + t * A s 1 + (ykw A k p + ykl A k p m * A s 1) = A 10 ((p + 1 : Nat) : Int) + (t + ykl A k p m) * A s 1 := by
    rw [hT.2.2 p (by omega), hT.2.2 (p + 1) (by omega), Int.add_mul]
    have e : ykf A k s (p + 1) = ykX A k s + (sm (fun i => ykw A k i) p + ykw A k p) := rfl
    have e2 : ykf A k s p = ykX A k s + sm (fun i => ykw A k i) p := rfl
    omega
  show (if M 17 kk < yst M kk (M 3 ss) p m then yG M kk bb ss (M 15 kk - 2 - p).toNat (A 10 p + t * A s 1 + yst M kk (M 3 ss) p m) else 1000000) = _
  rw [ey, m3, show (M 15 kk - 2 - (p : Int)).toNat = r by rw [m2]; omega, ea, ih']
theorem KT_G (h : LyM A k b s M kk bb ss) (hT : LyT A k s) : ∀ (r p : Nat) (t : Int), 0 ≤ t → (p : Int) + r = A k 4 - 1 → yG M kk bb ss r (A 10 p + t * A s 1) = ken A k s (KT A k b s r p t) := by
  intro r
  induction r with
  | zero =>
    intro p t ht hp
    have hpe : p = (A k 4).toNat - 1 := by omega
    have hl := lf_E h hT (t := t)
    rw [← hpe] at hl
    have hx := x_le h hT (p := p) (by omega)
    have hu : gE (A 8 3 + t * A s 1) (A s 1) (A b 2) (A k 7) (m_isF M bb) 4 0 = _ := und_E h ht 4 0 rfl (fun q hq => absurd hq (by omega))
    obtain ⟨⟨m1, m2, m3, m4⟩, -, ⟨b1, hF⟩, ⟨q1, -⟩, -, -, -, h7, hP, -⟩ := h
    rw [yG_0]
    unfold yE
    rw [b1, m3, m4, hl, q1]
    unfold KT
    by_cases c1 : A b 2 < A 10 p + t * A s 1 + A k 6
    · by_cases c7 : A b 2 < A 8 3 + t * A s 1 + A k 7
      · rw [if_pos c1, if_pos (Or.inl c7)]; rfl
      · exfalso; omega
    · rw [if_neg c1]
      by_cases c2 : m_isF M bb (A 10 p + t * A s 1) (A k 6) = true
      · rw [if_pos c2, if_pos (Or.inr ((hF _ _).mp c2))]; rfl
      · rw [if_neg c2, hu]
        by_cases c3 : A b 2 < A 8 3 + t * A s 1 + A k 7
        · rw [if_pos (Or.inl c3)]
          rcases k_und_s (A := A) (k := k) (b := b) (s := s) (t := t) 4 (-1) with ⟨j, h1, h2, h3, -⟩ | ⟨-, h2⟩
          · have := usd_m (A := A) (k := k) (s := s) (x := t) (y := t + j) (by omega) (by omega)
            have h2' := h2.1
            unfold k_usd at this
            omega
          · rw [h2]
        · rw [if_neg (by rintro (z | z); exact c3 z; exact c2 ((hF _ _).mpr z))]
  | succ r ih =>
    intro p t ht hp
    have hx := x_le h hT (p := p) (by omega)
    have hf := yf_k h hT (p := p) (r := r) (t := t) (by omega) (fun m hm1 hm4 => ih (p + 1) (t + ykl A k p m) (by have := ykl_b (A := A) (k := k) (p := p) ⟨hm1, hm4⟩; omega) (by omega))
    obtain ⟨⟨m1, m2, m3, m4⟩, -, ⟨b1, hF⟩, ⟨q1, -⟩, -, -, -, h7, hP, h9, -⟩ := h
    have y := yG_s (A := M) (k := kk) (b := bb) (s := ss) (p := p) (x := A 10 p + t * A s 1) (by rw [m2]; omega)
    rw [show (M 15 kk - 1 - (p : Int)).toNat = r + 1 by rw [m2]; omega] at y
    have hM := gM_f (A := A) (k := k) (s := s) (p := p) (t := t) (g := KT A k b s r ((p : Int) + 1)) (by omega) hf (fun m _ _ _ => by
      rcases KT_le (A := A) (k := k) (b := b) (s := s) r ((p : Int) + 1) (t + ykl A k p m) with z | z
      · exact Or.inl z
      · exact Or.inr (by omega)) 4 (Nat.le_refl 4)
    rw [y, b1, m3, hM]
    unfold KT
    by_cases c3 : A b 2 < A 8 3 + t * A s 1 + A k 7
    · rw [if_pos (Or.inl c3)]
      have hn := fmid_Q (A := A) (k := k) (s := s) (p := p) (t := t) (g := KT A k b s r ((p : Int) + 1)) (Q := fun _ => False) (fun m hm1 hm4 _ => by
        have hb := ykl_b (A := A) (k := k) (p := p) ⟨hm1, hm4⟩
        rcases KT_r (A := A) (k := k) (b := b) (s := s) r ((p : Int) + 1) (t + ykl A k p m) with z | z
        · exact Or.inl z
        · rcases KT_le (A := A) (k := k) (b := b) (s := s) r ((p : Int) + 1) (t + ykl A k p m) with z2 | z2
          · exact Or.inl z2
          · exfalso
            have := usd_m (A := A) (k := k) (s := s) (x := t) (y := KT A k b s r ((p : Int) + 1) (t + ykl A k p m)) (by omega) (by omega)
            unfold k_usd at this z2
            omega) 4 (Nat.le_refl 4)
      rcases hn with z | z
      · rw [z]
        show (if _ then (1000000 : Int) else if _ then 1000000 else 1000000) = 1000000
        (repeat' split) <;> rfl
      · exact z.elim
    · rw [if_neg (by omega : ¬ A b 2 < A 10 p + t * A s 1 + A k 6)]
      by_cases c2 : m_isF M bb (A 10 p + t * A s 1) (A k 6) = true
      · rw [if_pos c2, if_pos (Or.inr ((hF _ _).mp c2))]; rfl
      · rw [if_neg c2, if_neg (by rintro (z | z); exact c3 z; exact c2 ((hF _ _).mpr z))]
theorem lyS_k (h : LyM A k b s M kk bb ss) (hT : LyT A k s) {j : Int} : lyS M kk ss j = A 8 2 + j * A s 1 := by
  obtain ⟨⟨m1, m2, m3, m4⟩, -, -, ⟨q1, q2, -⟩, -, h4, -, h7, hP, -, h0⟩ := h
  unfold lyS
  rw [q1, q2, m4, hT.1]
  unfold yk0 k_cen lst ykH
  rw [if_pos ⟨Int.le_refl 0, by omega⟩, Int.tdiv_eq_ediv_of_nonneg h7.1]
theorem lyX_k (h : LyM A k b s M kk bb ss) (hT : LyT A k s) {j : Int} : lyX M kk ss j = A 10 0 + j * A s 1 := by
  have e10 : A 10 0 = ykX A k s := by
    have e := hT.2.2 0 (by have := h.2.2.2.2.2.1; omega)
    have e2 : ykf A k s 0 = ykX A k s + 0 := rfl
    rw [show A 10 0 = A 10 ((0 : Nat) : Int) from rfl, e, e2, Int.add_zero]
  have eS := lyS_k h hT (j := j)
  obtain ⟨⟨m1, m2, m3, m4⟩, m5, -, ⟨q1, q2, q3⟩, -, h4, h6, h7, hP, -, h0⟩ := h
  unfold lyX
  rw [eS, e10, m4, m3, q1]
  have e8 : A 8 2 = yk0 A k s := hT.1
  unfold ykX
  by_cases c : strd M kk
  · rw [if_pos c, if_neg (fun z => (m5.mp z) c), (q3 c).1, e8, show yk0 A k s + j * A s 1 + A k 7 = yk0 A k s + A k 7 + j * A s 1 by omega, lst_sh]
    unfold k_cen lst
    rw [if_pos (q3 c).2, Int.tdiv_eq_ediv_of_nonneg (by omega)]
  · rw [if_neg c, if_pos (m5.mpr c), e8]; omega
theorem lyG_k (h : LyM A k b s M kk bb ss) (hT : LyT A k s) {j : Nat} : lyG M kk bb ss j = if ¬ k_isF A b (A 8 2 + j * A s 1) (A k 7) then ken A k s (KT A k b s ((A k 4).toNat - 1) 0 j) else 1000000 := by
  have e1 := lyS_k h hT (j := j)
  have e2 := lyX_k h hT (j := j)
  have e3 := KT_G h hT ((A k 4).toNat - 1) 0 (j : Int) (by omega) (by have := h.2.2.2.2.2.1; omega)
  obtain ⟨⟨m1, m2, m3, m4⟩, -, ⟨b1, hF⟩, -⟩ := h
  unfold lyG
  rw [e1, e2, m4, m2, show (A k 4 - 1).toNat = (A k 4).toNat - 1 by omega]
  rw [show A 10 ((0 : Nat) : Int) = A 10 0 from rfl] at e3
  by_cases c : m_isF M bb (A 8 2 + (j : Int) * A s 1) (A k 7) = true
  · rw [if_pos c, if_neg (fun z => z ((hF _ _).mp c))]
  · rw [if_neg c, if_pos (fun z => c ((hF _ _).mpr z)), e3]; rfl
theorem ksr_le : ∀ j : Nat, ksr A k b s j = -1 ∨ k_usd A k s (ksr A k b s j) ≤ A b 2
  | 0 => Or.inl rfl
  | j + 1 => by
    have ih := ksr_le j
    have hk := KT_le (A := A) (k := k) (b := b) (s := s) ((A k 4).toNat - 1) 0 j
    show (if ¬ k_isF A b (A 8 2 + j * A s 1) (A k 7) then k_fewer (ksr A k b s j) (KT A k b s ((A k 4).toNat - 1) 0 j) else ksr A k b s j) = -1 ∨ k_usd A k s (if ¬ k_isF A b (A 8 2 + j * A s 1) (A k 7) then k_fewer (ksr A k b s j) (KT A k b s ((A k 4).toNat - 1) 0 j) else ksr A k b s j) ≤ A b 2
    by_cases c : k_isF A b (A 8 2 + j * A s 1) (A k 7)
    · rw [if_neg (fun z => z c)]; exact ih
    · rw [if_pos c]
      rcases fewer_or (x := ksr A k b s j) (y := KT A k b s ((A k 4).toNat - 1) 0 j) with e | e
      · rw [e]; exact ih
      · rw [e]; exact hk
theorem lyB_k (h : LyM A k b s M kk bb ss) (hT : LyT A k s) : ∀ j : Nat, (lyB M kk bb ss j).1 = ken A k s (ksr A k b s j)
  | 0 => rfl
  | j + 1 => by
    have ih := lyB_k h hT j
    have hg := lyG_k h hT (j := j)
    have hl := lyB_le (A := M) (k := kk) (b := bb) (s := ss) j
    obtain ⟨-, -, -, -, -, -, -, -, hP, h9, -⟩ := h
    have h1 := ksr_le (A := A) (k := k) (b := b) (s := s) j
    have h2 := KT_le (A := A) (k := k) (b := b) (s := s) ((A k 4).toNat - 1) 0 j
    have he := ken_few (A := A) (k := k) (s := s) (x := ksr A k b s j) (y := KT A k b s ((A k 4).toNat - 1) 0 j) (by omega) (by rcases h1 with z | z; exact Or.inl z; exact Or.inr (by omega)) (by rcases h2 with z | z; exact Or.inl z; exact Or.inr (by omega))
    show (if lyG M kk bb ss j < (lyB M kk bb ss j).1 then (lyG M kk bb ss j, (j : Int)) else lyB M kk bb ss j).1 = ken A k s (if ¬ k_isF A b (A 8 2 + j * A s 1) (A k 7) then k_fewer (ksr A k b s j) (KT A k b s ((A k 4).toNat - 1) 0 j) else ksr A k b s j)
    by_cases c : k_isF A b (A 8 2 + j * A s 1) (A k 7)
    · have nc := not_not_intro c
      rw [if_neg nc] at hg ⊢
      rw [hg, if_neg (by omega), ih]
    · rw [if_pos c] at hg ⊢
      rw [he, hg, ih]
      by_cases c2 : ken A k s (KT A k b s ((A k 4).toNat - 1) 0 j) < ken A k s (ksr A k b s j)
      · rw [if_pos c2, if_pos c2]
      · rw [if_neg c2, if_neg c2, ih]
end LINK2
