section LAYR
variable {W : gW} {P P' : Nat → Int → Nat} {A A' M M' : Nat → Int → Int}
theorem lyM_lay (h : Rel W P A M) {k b : Int} (k0 : 0 ≤ k) (k1 : k < M 0 13) (b0 : 0 ≤ b) (b1 : b < M 0 8) (hs : m_hasS M k (M 7 b)) : LyM A (qK k) (qB b) (qS (M 7 b)) M k b (M 7 b) := by
  obtain ⟨hO, hB, ⟨n0, n1, n2, n3, n4, n5, n6, n7, n8, n9, n12⟩, hU, hL, hN⟩ := h.ki k0 k1
  obtain ⟨hb, ⟨-, e2, -⟩, -, -⟩ := h.bo b0 b1
  have hk := (h.ok.2.2.1.2 k k0 k1).1
  obtain ⟨v1, v2, v3⟩ := h.ok.2.1.2 b b0 b1
  obtain ⟨hS, ⟨e0, e1, -⟩, hE, hC⟩ := h.se v1.1 v1.2
  obtain ⟨o1, o2, o3, o4, o5, o6, o7, o8, o9, o10, o11⟩ := hO
  have bs := hS.2.2.1
  refine ⟨⟨n0.symm, n4.symm, n6.symm, n7.symm⟩, n9, ⟨e2.symm, fun x l => (isF_k (h.bo b0 b1)).symm⟩, ⟨e1.symm, (hE 0 (by decide) (by omega)).2.2.symm, fun z => ?_⟩, o9, o4, o7, o8, bs.2.1, hb.2.2.2.2.1.2, bs.1.1⟩
  have hh : M 16 k < M 2 (M 7 b) := by
    rcases hs with y | y
    · exact absurd z y
    · exact y
  have h16 := hk.2.2.2.2.2.1
  rw [n5]
  exact ⟨(hE _ h16.1 hh).2.2.symm, h16.1, by rw [e0]; exact hh⟩
theorem loses_v {n T v p : Int} (hn : 4 ≤ n) (hT : 0 ≤ T) (hp : 0 ≤ p) (h : T ≤ n * (v - 1)) : ((p + 1) * T).tdiv n - (p * T).tdiv n < v := by
  have q1 : 0 ≤ p * T := Int.mul_nonneg hp hT
  have q2 : (p + 1) * T = p * T + T := by rw [Int.add_mul, Int.one_mul]
  rw [q2, Int.tdiv_eq_ediv_of_nonneg (by omega), Int.tdiv_eq_ediv_of_nonneg q1]
  have q3 : (p * T + T) / n ≤ (p * T + n * (v - 1)) / n := Int.ediv_le_ediv (by omega) (by omega)
  rw [Int.add_mul_ediv_left _ _ (by omega)] at q3
  omega
theorem ksr3 {t p : Int} (ht : 0 ≤ t ∧ t ≤ 3) (hp : 1 ≤ p ∧ p ≤ 400) : 0 ≤ t * p ∧ t * p ≤ 1200 := by
  rcases (by omega : t = 0 ∨ t = 1 ∨ t = 2 ∨ t = 3) with c | c | c | c <;> subst c <;> omega
/-- what a laying leaves, on both sides -/
def LdF (A A' M M' : Nat → Int → Int) (k b : Int) : Prop := (∀ j : Int, ¬ j = 12 → ¬ j = 13 → ¬ j = 14 → A' (qK k) j = A (qK k) j) ∧ (A' (qK k) 12 = b ∧ A' (qK k) 13 = A (qK k) 6 ∧ A' (qK k) 14 = 0) ∧ (∀ c, ¬ c = 8 → ¬ c = 9 → ¬ c = 10 → ¬ (qK k ≤ c ∧ c < qK k + 4) → A' c = A c) ∧ (A' (qK k + 1) 2 = M' 21 k ∧ A' (qK k + 1) 3 = M' 22 k ∧ A' (qK k + 1) 4 = M' 22 k + M' 18 k ∧ A' (qK k + 1) 5 = M' 23 k ∧ A' (qK k + 1) 6 = M' 24 k) ∧ (∀ p : Int, 0 ≤ p → p < M' 15 k → A' (qK k + 1 + 1) p = M' 26 (24 * k + p) ∧ (if p + 1 < M' 15 k then A' (qK k + 1 + 2) p else -1) = M' 27 (24 * k + p) ∧ 0 ≤ M' 26 (24 * k + p) ∧ M' 26 (24 * k + p) ≤ 9999) ∧ (0 ≤ M' 22 k ∧ M' 22 k ≤ 9999 ∧ M' 22 k + M' 18 k ≤ 9999) ∧ (0 ≤ M' 21 k ∧ M' 21 k ≤ 9999) ∧ (0 ≤ M' 23 k ∧ M' 23 k ≤ 3) ∧ M' 20 k = b ∧ M' 25 k = M 17 k ∧ M' 28 k = 0
theorem laid_f (h : Rel W P A M) {k b : Int} (k0 : 0 ≤ k) (k1 : k < M 0 13) (b0 : 0 ≤ b) (b1 : b < M 0 8) (hs : m_hasS M k (M 7 b)) {A1 A2 : Nat → Int → Int} (hL : LyS A A1 (qK k) (qB b) (qS (M 7 b))) (hn : ¬ A1 8 4 = -1) (hT : TrS A1 A2 (qK k) (qB b) (qS (M 7 b))) (hM : LaidTo M M' k b) : LdF A (UA (UA (UA A2 (qK k) 12 b) (qK k) 13 (A2 (qK k) 6)) (qK k) 14 0) M M' k b := by
  obtain ⟨oS0, oB0, oK0, oH0, oT0, oR0⟩ := h.ok
  have k8 := oK0.1
  have b8 := oB0.1
  have qk := qK_d (s := k)
  have qb := qB_d (s := b)
  have qs := qS_d (s := M 7 b)
  obtain ⟨hO, hB, hn1, hU, hKl, hN⟩ := h.ki k0 k1
  have hk := (oK0.2 k k0 k1).1
  have hkb := hk.b
  obtain ⟨v1, v2, v3⟩ := oB0.2 b b0 b1
  have hS := (h.se v1.1 v1.2).1
  have hLM0 := lyM_lay h k0 k1 b0 b1 hs
  have hLT := lyT_of hL (by omega) (by omega)
  obtain ⟨hF, z82, z83, z10, hI, h84⟩ := hL
  have r1 : ∀ c, ¬ c = 8 → ¬ c = 9 → ¬ c = 10 → A1 c = A c := fun c q1 q2 q3 => hF.1 c (by simp; omega) q1
  have hLM : LyM A1 (qK k) (qB b) (qS (M 7 b)) M k b (M 7 b) := hLM0.same2 (r1 _ (by omega) (by omega) (by omega)) (r1 _ (by omega) (by omega) (by omega)) (r1 _ (by omega) (by omega) (by omega)) (r1 _ (by omega) (by omega) (by omega)) (r1 _ (by omega) (by omega) (by omega))
  obtain ⟨y1, y2⟩ := lay_k hLM hLT hI h84
  obtain ⟨y3, y4, y5, y6, y7⟩ := y2 hn
  rw [if_neg hn] at y1
  obtain ⟨t1, t2, t3, t4, t5, t6, t7⟩ := hT
  have r2 : ∀ c, ¬ c = 8 → ¬ c = 9 → ¬ c = 10 → ¬ c = qK k + 1 → ¬ c = qK k + 1 + 1 → ¬ c = qK k + 1 + 2 → A2 c = A c := fun c q1 q2 q3 q4 q5 q6 => by rw [t1.1 c (by simp; omega) q4]; exact r1 c q1 q2 q3
  obtain ⟨⟨⟨m11, m15, m17, m18⟩, m9, m8, ⟨m3, m4, m5⟩, g0, g4, g6, g7, gP, g2, gS⟩, hLM⟩ := And.intro hLM hLM
  have hF2 : FindC M k b (M 7 b) := FindC.of (oS0.2 _ v1.1 v1.2) (by have := oS0.1; omega) hk (by omega) (by omega) v3 v2 hs
  have hub := ly_ub hF2 (by rw [y1]; exact y3)
  obtain ⟨i, i1, i2, i3, i4, i5, -⟩ := ly_end hF2 (by rw [y1]; exact y3)
  rw [← i2] at i5
  obtain ⟨f1, f2, f3, l20, l21, l22, l23, l25, l28, lp, l24⟩ := hM
  have mr : ∀ c, ¬ c = 0 → ¬ (20 ≤ c ∧ c ≤ 32) → M' c = M c := fun c q1 q2 => f1.1 c (by simp; omega) q1
  have m0 : ∀ j : Int, ¬ j = 32 → ¬ j = 36 → ¬ j = 39 → ¬ j = 40 → ¬ j = 41 → M' 0 j = M 0 j := fun j q1 q2 q3 q4 q5 => f1.2 j (by simp; omega)
  have hp3 := ksr3 y4 gP
  have e0A := r2 (qK k) (by omega) (by omega) (by omega) (by omega) (by omega) (by omega)
  have e1A : A1 (qK k) = A (qK k) := r1 (qK k) (by omega) (by omega) (by omega)
  -- the new row of the kilt
  have rowk : ∀ j : Int, ¬ j = 12 → ¬ j = 13 → ¬ j = 14 → (UA (UA (UA A2 (qK k) 12 b) (qK k) 13 (A2 (qK k) 6)) (qK k) 14 0) (qK k) j = A (qK k) j := fun j q1 q2 q3 => by rw [UA_j q3, UA_j q2, UA_j q1, e0A]
  have rown : ∀ c, ¬ c = qK k → (UA (UA (UA A2 (qK k) 12 b) (qK k) 13 (A2 (qK k) 6)) (qK k) 14 0) c = A2 c := fun c q => by rw [UA_n q, UA_n q, UA_n q]
  have a12 : (UA (UA (UA A2 (qK k) 12 b) (qK k) 13 (A2 (qK k) 6)) (qK k) 14 0) (qK k) 12 = b := by rw [UA_j (by decide), UA_j (by decide), UA_eq]
  have a13 : (UA (UA (UA A2 (qK k) 12 b) (qK k) 13 (A2 (qK k) 6)) (qK k) 14 0) (qK k) 13 = A (qK k) 6 := by rw [UA_j (by decide), UA_eq, e0A]
  have a14 : (UA (UA (UA A2 (qK k) 12 b) (qK k) 13 (A2 (qK k) 6)) (qK k) 14 0) (qK k) 14 = 0 := UA_eq
  generalize hA' : UA (UA (UA A2 (qK k) 12 b) (qK k) 13 (A2 (qK k) 6)) (qK k) 14 0 = A' at rowk rown a12 a13 a14 ⊢
  have a1 := rown (qK k + 1) (by omega)
  have a2 := rown (qK k + 1 + 1) (by omega)
  have a3 := rown (qK k + 1 + 2) (by omega)
  have rest : ∀ c, ¬ c = 8 → ¬ c = 9 → ¬ c = 10 → ¬ (qK k ≤ c ∧ c < qK k + 4) → A' c = A c := fun c q1 q2 q3 q4 => by rw [rown c (by omega)]; exact r2 c q1 q2 q3 (by omega) (by omega) (by omega)
  have usd : k_usd A1 (qK k) (qS (M 7 b)) (A1 8 4) = A1 8 3 + A1 8 4 * A1 (qS (M 7 b)) 1 + A1 (qK k) 7 := rfl
  have e18 : M' 18 = M 18 := mr 18 (by decide) (by decide)
  have e15 : M' 15 = M 15 := mr 15 (by decide) (by decide)
  have e17 : M' 17 = M 17 := mr 17 (by decide) (by decide)
  have e19 : M' 19 = M 19 := mr 19 (by decide) (by decide)
  have q3 : A' (qK k + 1) 3 = M' 22 k := by rw [a1, t5, l22, y1, usd, m18]; omega
  have q4 : A' (qK k + 1) 4 = M' 22 k + M' 18 k := by rw [a1, t6, l22, y1, e18]; omega
  have q2 : A' (qK k + 1) 2 = M' 21 k := by rw [a1, t3, l21, y6]
  have q5 : A' (qK k + 1) 5 = M' 23 k := by rw [a1, t2, l23, y5]
  have places : ∀ p : Int, 0 ≤ p → p < M' 15 k → A' (qK k + 1 + 1) p = M' 26 (24 * k + p) ∧ (if p + 1 < M' 15 k then A' (qK k + 1 + 2) p else -1) = M' 27 (24 * k + p) ∧ 0 ≤ M' 26 (24 * k + p) ∧ M' 26 (24 * k + p) ≤ 9999 := fun p p0 p1 => by
    rw [e15] at p1 ⊢
    obtain ⟨n, rfl⟩ := Int.eq_ofNat_of_zero_le p0
    have p1' : (n : Int) < A1 (qK k) 4 := by rw [← m15]; exact p1
    obtain ⟨w1, w2⟩ := y7 n p1'
    obtain ⟨w3, w4⟩ := t7 n (by omega)
    obtain ⟨w5, w6⟩ := lp n p1
    have w7 := i5 n p1
    refine ⟨by rw [a2, w3, w5, w1], ?_, by rw [w5]; exact w7.1, by rw [w5]; omega⟩
    rw [w6, a3]
    by_cases c : (n : Int) + 1 < M 15 k
    · rw [if_pos c, if_neg (by omega), w4 (by omega), w2 (by omega)]
    · rw [if_neg c, if_pos (by omega)]
  have q6 : A' (qK k + 1) 6 = M' 24 k := by
    have w1 := (y7 ((A1 (qK k) 4).toNat - 1) (by omega)).1
    have w2 := lf_E hLM hLT (t := kxt A1 (qK k) (qS (M 7 b)) (ktz A1 (qK k) (qB b) (qS (M 7 b)) 3 0) ((A1 (qK k) 4).toNat - 1))
    rw [show (M 15 k - 1).toNat = (A1 (qK k) 4).toNat - 1 by omega, w1, m17, m18, w2, y1, usd, m3] at l24
    rw [a1, t4, l24, show A1 8 3 + A1 8 4 * A1 (qS (M 7 b)) 1 + A1 (qK k) 7 - A1 (qK k) 7 - (A1 8 3 + kxt A1 (qK k) (qS (M 7 b)) (ktz A1 (qK k) (qB b) (qS (M 7 b)) 3 0) ((A1 (qK k) 4).toNat - 1) * A1 (qS (M 7 b)) 1) = (A1 8 4 - kxt A1 (qK k) (qS (M 7 b)) (ktz A1 (qK k) (qB b) (qS (M 7 b)) 3 0) ((A1 (qK k) 4).toNat - 1)) * A1 (qS (M 7 b)) 1 by rw [Int.sub_mul]; omega, Int.mul_tdiv_cancel _ (by omega)]
  have b21 : 0 ≤ M' 21 k ∧ M' 21 k ≤ 9999 := by
    have hb0 := hLT.1
    have hc := cen_b (x := 0) (y := ykH A (qK k)) (s := 0) hS
    rw [← q2, a1, t3, z82]
    unfold yk0
    omega
  have hc22 : 0 ≤ M' 22 k ∧ M' 22 k ≤ 9999 ∧ M' 22 k + M' 18 k ≤ 9999 := by rw [l22, e18]; omega
  exact ⟨rowk, ⟨a12, a13, a14⟩, rest, ⟨q2, q3, q4, q5, q6⟩, places, hc22, b21, by rw [l23, y5]; exact y4, l20, l25, l28⟩
theorem Rel.laid (h : Rel W P A M) {k b : Int} (k0 : 0 ≤ k) (k1 : k < M 0 13) (b0 : 0 ≤ b) (b1 : b < M 0 8) (hD : LdF A A' M M' k b) (hM : LaidTo M M' k b) (hP : ∀ c, ¬ c = 8 → ¬ c = qK k → P' c = P c) (hPk : ∀ j, ¬ j = 11 → P' (qK k) j = P (qK k) j) (hP1 : P' (qK k) 11 = qB b + 1) : Rel W P' A' M' := by
  obtain ⟨oS0, oB0, oK0, oH0, oT0, oR0⟩ := h.ok
  have k8 := oK0.1
  have b8 := oB0.1
  have qk := qK_d (s := k)
  obtain ⟨hO, hB, hn1, hU, -, hN⟩ := h.ki k0 k1
  have hk := (oK0.2 k k0 k1).1
  have n6 : A (qK k) 6 = M 17 k := hn1.2.2.2.2.2.2.1
  have n4 : A (qK k) 4 = M 15 k := hn1.2.2.2.2.1
  obtain ⟨rowk, ⟨a12, a13, a14⟩, rest, ⟨q2, q3, q4, q5, q6⟩, places, b22, b21, b23, l20, l25, l28⟩ := hD
  obtain ⟨f1, f2, f3, -⟩ := hM
  have mr : ∀ c, ¬ c = 0 → ¬ (20 ≤ c ∧ c ≤ 32) → M' c = M c := fun c q1 q2 => f1.1 c (by simp; omega) q1
  have m0 : ∀ j : Int, ¬ j = 32 → ¬ j = 36 → ¬ j = 39 → ¬ j = 40 → ¬ j = 41 → M' 0 j = M 0 j := fun j q1 q2 q3 q4 q5 => f1.2 j (by simp; omega)
  have e18 : M' 18 = M 18 := mr 18 (by decide) (by decide)
  have e15 : M' 15 = M 15 := mr 15 (by decide) (by decide)
  have e19 : M' 19 = M 19 := mr 19 (by decide) (by decide)
  have eS : ∀ s : Int, eqS M M' s := fun s => eqS_r (fun c hc => by simp at hc; exact mr c (by omega) (by omega)) s
  have eB : ∀ s : Int, eqB M M' s := fun s => eqB_r (fun c hc => by simp at hc; exact mr c (by omega) (by omega)) s
  have eK : ∀ s : Int, eqK M M' s := fun s => eqK_r (fun c hc => by simp at hc; exact mr c (by omega) (by omega)) s
  have eT : ∀ s : Int, eqT M M' s := fun s => eqT_r (fun c hc => by simp at hc; exact mr c (by omega) (by omega)) s
  have eH : ∀ s : Int, eqH M M' s := fun s => eqH_r (fun c hc => by simp at hc; exact mr c (by omega) (by omega)) s
  have eL : ∀ s : Int, 0 ≤ s → s < M 0 13 → ¬ s = k → eqL M M' s := fun s s0 s1 sk => by
    have h15 := (oK0.2 k k0 k1).1.2.2.2.2.1
    refine ⟨f2 20 (by decide) s sk, f2 21 (by decide) s sk, f2 22 (by decide) s sk, f2 23 (by decide) s sk, f2 24 (by decide) s sk, f2 25 (by decide) s sk, f2 28 (by decide) s sk, fun p p0 p1 => ⟨f3 26 (by decide) _ (by omega), f3 27 (by decide) _ (by omega)⟩⟩
  have z2 := m0 2 (by decide) (by decide) (by decide) (by decide) (by decide)
  have z8 := m0 8 (by decide) (by decide) (by decide) (by decide) (by decide)
  have z13 := m0 13 (by decide) (by decide) (by decide) (by decide) (by decide)
  have z42 := m0 42 (by decide) (by decide) (by decide) (by decide) (by decide)
  have z43 := m0 43 (by decide) (by decide) (by decide) (by decide) (by decide)
  have z1 := m0 1 (by decide) (by decide) (by decide) (by decide) (by decide)
  have A0 := rest 0 (by decide) (by decide) (by decide) (by omega)
  have A1r := rest 1 (by decide) (by decide) (by decide) (by omega)
  refine h.gen (fun c q1 q2 q3 => hP c q2 (by omega)) (fun c q1 q2 q3 q4 => rest c (by omega) (by omega) (by omega) (by omega)) (fun s _ _ => eS s) (fun t _ _ => eT t) ⟨z2, z42, z8, z13⟩ (by rw [A0]; exact ⟨rfl, rfl, rfl⟩) ?_ ?_ (h.boS (fun c _ _ => hP c (by omega) (by omega)) (fun c _ _ => rest c (by omega) (by omega) (by omega) (by omega)) (fun b _ _ => eB b)) (fun i i0 i1 => ?_) (h.shS (fun c _ _ => hP c (by omega) (by omega)) (fun c _ _ => rest c (by omega) (by omega) (by omega) (by omega)) (fun s _ _ => eH s)) ?_ (oB0.sm (fun b _ _ => eB b) z8 z2) ⟨by rw [z13]; exact k8, fun i i0 i1 => ?_⟩ (oH0.same (mr 43 (by decide) (by decide)) (mr 44 (by decide) (by decide))) (by rw [z43, z42]; exact oR0)
  · unfold RCn; rw [A0, A1r, z1, z2, z8, z13, z42, z43]; exact h.cn
  · rw [mr 1 (by decide) (by decide)]; exact h.tp.same A1r (rest 2 (by decide) (by decide) (by decide) (by omega))
  · have qi := qK_d (s := i)
    by_cases e : i = k
    · subst e
      refine ⟨?_, ?_, ?_, fun z => absurd z (by rw [l20]; omega), fun _ => ⟨by rw [hP1, l20], by rw [a13, n6, l25], by rw [a14, l28], q2, q3, q4, q5, q6, fun p p0 p1 => ⟨(places p p0 p1).1, (places p p0 p1).2.1⟩⟩, ?_⟩
      · obtain ⟨o1, o2, o3, o4, o5, o6, o7, o8, o9, o10, o11⟩ := hO
        refine ⟨o1, by rw [hPk 10 (by decide)]; exact o2, ?_, by rw [rowk 4 (by decide) (by decide) (by decide)]; exact o4, by rw [rowk 8 (by decide) (by decide) (by decide)]; exact o5, by rw [rowk 9 (by decide) (by decide) (by decide)]; exact o6, by rw [rowk 6 (by decide) (by decide) (by decide)]; exact o7, by rw [rowk 7 (by decide) (by decide) (by decide)]; exact o8, by rw [rowk 0 (by decide) (by decide) (by decide)]; exact o9, by rw [a13]; exact ⟨by have := o7.1; omega, by have := o7.2; omega⟩, Or.inl a14⟩
        rw [rowk 4 (by decide) (by decide) (by decide)]
        unfold OLg at o3 ⊢
        rw [hP (qK i + 1) (by omega) (by omega)]
        exact o3
      · intro j
        unfold k_st
        rw [rowk 4 (by decide) (by decide) (by decide), n4]
        split
        · rename_i c
          have := places j c.1 (by rw [e15]; exact c.2)
          rw [this.1]
          exact ⟨this.2.2.1, Int.le_trans this.2.2.2 (by decide)⟩
        · rw [q3]
          exact ⟨b22.1, Int.le_trans b22.2.1 (by decide)⟩
      · obtain ⟨u0, u1, u2, u3, u4, u5, u6, u7, u8, u9, u12⟩ := hn1
        have v := eK i
        obtain ⟨x0, x1, x2, x3, x4, x5, x6, x7, x8⟩ := v
        have es : strd M' i ↔ strd M i := strd_eq x0
        unfold RKn
        rw [rowk 0 (by decide) (by decide) (by decide), rowk 1 (by decide) (by decide) (by decide), rowk 2 (by decide) (by decide) (by decide), rowk 3 (by decide) (by decide) (by decide), rowk 4 (by decide) (by decide) (by decide), rowk 5 (by decide) (by decide) (by decide), rowk 6 (by decide) (by decide) (by decide), rowk 7 (by decide) (by decide) (by decide), rowk 8 (by decide) (by decide) (by decide), rowk 9 (by decide) (by decide) (by decide), a12, x0, x1, x2, x3, x4, x5, x6, x7, x8, es]
        exact ⟨u0, u1, u2, u3, u4, u5, u6, u7, u8, u9, l20.symm⟩
      · rw [rowk 15 (by decide) (by decide) (by decide)]
        exact hN.same hk (fun z => ⟨by omega, eS 0⟩) (eK i)
    · exact (h.ki i0 i1).same (fun c q1 q2 => ⟨rfl, rfl, hP c (by omega) (by omega), rest c (by omega) (by omega) (by omega) (by omega)⟩) (oK0.2 i i0 i1).1 (eK i) (eL i i0 i1 e) (fun z => ⟨by omega, eS 0⟩)
  · rw [rest 14 (by decide) (by decide) (by decide) (by omega), mr 41 (by decide) (by decide)]; exact h.cu
  · rw [z13] at i1
    obtain ⟨w1, w2⟩ := oK0.2 i i0 i1
    by_cases e : i = k
    · subst e
      refine ⟨?_, fun _ => ⟨by rw [l20, z8]; exact b1, by rw [l25]; exact ⟨hk.b.1.1, Int.le_trans hk.b.1.2 (by decide)⟩, b21, ⟨b22.1, b22.2.1⟩, b22.2.2, b23, Or.inl l28, fun p p0 p1 => ⟨(places p p0 p1).2.2, ?_⟩⟩⟩
      · obtain ⟨u1, u2, u3, u4, u5, u6, u7, u8, u9, u10, u11⟩ := hk
        obtain ⟨x0, x1, x2, x3, x4, x5, x6, x7, x8⟩ := eK i
        unfold KiltOK
        rw [x0, x1, x2, x3, x4, x5, x6, x7, x8, l20]
        exact ⟨u1, u2, u3, u4, u5, u6, u7, u8, u9, u10, by omega⟩
      · unfold m_loses
        rw [e19, e15, l25]
        exact loses_v hk.2.2.2.2.1.1 hk.b.2.2.1 p0 hk.2.2.2.2.2.2.2.2.2.1
    · exact ⟨w1.same (eK i) (eL i i0 i1 e).1, w2.same w1 (eK i) (eL i i0 i1 e) (by omega)⟩
abbrev m_layok (M : Nat → Int → Int) (x y : Int) : Prop := (0 ≤ x ∧ x ≤ M 0 13 - 1) ∧ (0 ≤ y ∧ y ≤ M 0 8 - 1) ∧ m_hasS M x (M 7 y)
def PLy (P : Nat → Int → Nat) (k b s : Nat) : Nat → Int → Nat := UP (UP (UP P 8 5 (k + 1)) 8 6 (b + 1)) 8 7 (s + 1)
def LayP (M A : Nat → Int → Int) (P : Nat → Int → Nat) (x y r : Int) (A' : Nat → Int → Int) (P' : Nat → Int → Nat) : Prop := (¬ m_layok M x y → r = -2 ∧ A' = A ∧ P' = P) ∧ (m_layok M x y → ∃ A1, LyS A A1 (qK x) (qB y) (qS (M 7 y)) ∧ (A1 8 4 = -1 → r = -1 ∧ A' = A1 ∧ P' = PLy P (qK x) (qB y) (qS (M 7 y))) ∧ (¬ A1 8 4 = -1 → r = k_usd A1 (qK x) (qS (M 7 y)) (A1 8 4) ∧ ∃ A2, TrS A1 A2 (qK x) (qB y) (qS (M 7 y)) ∧ A' = UA (UA (UA A2 (qK x) 12 y) (qK x) 13 (A2 (qK x) 6)) (qK x) 14 0 ∧ P' = UP (PLy P (qK x) (qB y) (qS (M 7 y))) (qK x) 11 (qB y + 1)))
theorem PLy_n {k b s c : Nat} (h : ¬ c = 8) : PLy P k b s c = P c := by unfold PLy; rw [UP_n h, UP_n h, UP_n h]
theorem PLy_5 {k b s : Nat} : PLy P k b s 8 5 = k + 1 ∧ PLy P k b s 8 6 = b + 1 ∧ PLy P k b s 8 7 = s + 1 := by
  unfold PLy
  exact ⟨by rw [UP_j (by decide), UP_j (by decide), UP_e], by rw [UP_j (by decide), UP_e], UP_e⟩
end LAYR
theorem V67_0 {d : Nat} (hd : 5 ≤ d) {Q : Option Value → xM → Prop} {W : gW} (hW : HW W) {A : Nat → Int → Int} {P : Nat → Int → Nat} (hR : RG A) (hT : Stat W P) (hG : GL W) {x1 x2 : Int} (rr : Rg x1 ∧ Rg x2) (h : (CtO P A) ∧ (((¬ (0 ≤ x1 ∧ x1 < A 0 12)) → (((¬ (0 ≤ x2 ∧ x2 < A 0 11)) → Q (some (.int (iz (-2)))) (Wm W A P)) ∧ (¬ (¬ (0 ≤ x2 ∧ x2 < A 0 11)) → Q (some (.int (iz (-2)))) (Wm W A P)))) ∧ (¬ (¬ (0 ≤ x1 ∧ x1 < A 0 12)) → (((¬ (0 ≤ x2 ∧ x2 < A 0 11)) → Q (some (.int (iz (-2)))) (Wm W A P)) ∧ (¬ (¬ (0 ≤ x2 ∧ x2 < A 0 11)) → (gK W (qB x2) = 1) ∧ (¬ P (qB x2) 0 = 0) ∧ (gK W (qK x1) = 3) ∧ (gK W (P (qB x2) 0 - 1) = 6) ∧ ((¬ (A (qK x1) 9 = 0 ∨ (0 ≤ A (qK x1) 5 ∧ A (qK x1) 5 < A (P (qB x2) 0 - 1) 0)) → Q (some (.int (iz (-2)))) (Wm W A P)) ∧ ((A (qK x1) 9 = 0 ∨ (0 ≤ A (qK x1) 5 ∧ A (qK x1) 5 < A (P (qB x2) 0 - 1) 0)) → (OKi W P A (qK x1)) ∧ (OBt W P A (qB x2)) ∧ (OSt W P A (P (qB x2) 0 - 1)) ∧ (29 ≤ (qK x1) ∧ 29 ≤ (qB x2) ∧ 29 ≤ P (qB x2) 0 - 1) ∧ (∀ (r_1 : Int) (A_1 : Nat → Int → Int) (P_1 : Nat → Int → Nat), Rg r_1 → RG A_1 → Stat W P_1 → (P_1 = UP (UP (UP P 8 5 ((qK x1) + 1)) 8 6 ((qB x2) + 1)) 8 7 (P (qB x2) 0) ∧ LyS A A_1 (qK x1) (qB x2) (P (qB x2) 0 - 1) ∧ r_1 = (if A_1 8 4 = -1 then -1 else k_usd A_1 (qK x1) (P (qB x2) 0 - 1) (A_1 8 4))) → (((r_1 = (-1)) → Q (some (.int (iz r_1))) (Wm W A_1 P_1)) ∧ (¬ (r_1 = (-1)) → (P_1 (qK x1) 10 = ((qK x1) + 1) + 1) ∧ (LyC W P_1 A_1) ∧ (((qK x1) + 1) = P_1 8 5 - 1 + 1) ∧ (TrB A_1 (P_1 8 5 - 1)) ∧ (∀ (A_2 : Nat → Int → Int), RG A_2 → (TrS A_1 A_2 (P_1 8 5 - 1) (P_1 8 6 - 1) (P_1 8 7 - 1)) → (∀ (A_3 : Nat → Int → Int) (P_3 : Nat → Int → Nat), RG A_3 → Stat W P_3 → (A_3 = UA (UA (UA A_2 (qK x1) 12 x2) (qK x1) 13 (A_2 (qK x1) 6)) (qK x1) 14 0 ∧ P_3 = UP P_1 (qK x1) 11 ((qB x2) + 1)) → Q (some (.int (iz r_1))) (Wm W A_3 P_3))))))))))))) : wpE (xT 67) (xev xT d) Q (0, [(0, .ref (lo W 0)), (1, .int (iz x1)), (2, .int (iz x2))], [], Wm W A P) := by
  refine p_ald (cc3 c67_0) rfl ?_
  refine p_ild (cc3 c67_1) rfl ?_
  obtain ⟨g1, h⟩ := h
  have he := S66 (Nat.le_trans (by decide) hd) hW hR hT hG rr.1 g1
  refine nul_c (c := ¬ (0 ≤ x1 ∧ x1 < A 0 12)) he (fun c he => ?_) (fun c he => ?_) <;> refine p_callV (cc3 c67_2) (Nat.le_of_ble_eq_true rfl) rfl rfl (Nat.le_of_ble_eq_true rfl) (wk_kd hW (by decide) (st_k hT 0 12 (by decide))) he ?_
  · have h := h.1 c
    refine p_astN (ls' := [(3, .null), (0, .ref (lo W 0)), (1, .int (iz x1)), (2, .int (iz x2))]) (cc3 c67_5) (by decide) rfl ?_
    refine p_ald (cc3 c67_6) rfl ?_
    refine p_ild (cc3 c67_7) rfl ?_
    have he := S54 (Nat.le_trans (by decide) hd) hW hR hT hG rr.2 g1
    refine nul_c (c := ¬ (0 ≤ x2 ∧ x2 < A 0 11)) he (fun c he => ?_) (fun c he => ?_) <;> refine p_callV (cc3 c67_8) (Nat.le_of_ble_eq_true rfl) rfl rfl (Nat.le_of_ble_eq_true rfl) (wk_kd hW (by decide) (st_k hT 0 12 (by decide))) he ?_
    · have h := h.1 c
      refine p_astN (ls' := [(4, .null), (3, .null), (0, .ref (lo W 0)), (1, .int (iz x1)), (2, .int (iz x2))]) (cc3 c67_11) (by decide) rfl ?_
      refine p_aldN (cc3 c67_13) rfl ?_
      refine p_ifnN (cc3 c67_14) ?_
      refine p_lc (ls' := []) c67_34 rfl rfl ?_
      refine i_push (n := (-2)) (cct c67_34 rfl) zl_m2 ?_
      exact p_ri (cc3 c67_36) trivial h
    · have h := h.2 c
      refine p_ast (ls' := [(4, .ref (lo W (qB x2))), (3, .null), (0, .ref (lo W 0)), (1, .int (iz x1)), (2, .int (iz x2))]) (cc3 c67_11) (by decide) rfl ?_
      refine p_aldN (cc3 c67_13) rfl ?_
      refine p_ifnN (cc3 c67_14) ?_
      refine p_lc (ls' := []) c67_34 rfl rfl ?_
      refine i_push (n := (-2)) (cct c67_34 rfl) zl_m2 ?_
      exact p_ri (cc3 c67_36) trivial h
  · have h := h.2 c
    refine p_ast (ls' := [(3, .ref (lo W (qK x1))), (0, .ref (lo W 0)), (1, .int (iz x1)), (2, .int (iz x2))]) (cc3 c67_5) (by decide) rfl ?_
    refine p_ald (cc3 c67_6) rfl ?_
    refine p_ild (cc3 c67_7) rfl ?_
    have he := S54 (Nat.le_trans (by decide) hd) hW hR hT hG rr.2 g1
    refine nul_c (c := ¬ (0 ≤ x2 ∧ x2 < A 0 11)) he (fun c he => ?_) (fun c he => ?_) <;> refine p_callV (cc3 c67_8) (Nat.le_of_ble_eq_true rfl) rfl rfl (Nat.le_of_ble_eq_true rfl) (wk_kd hW (by decide) (st_k hT 0 12 (by decide))) he ?_
    · have h := h.1 c
      refine p_astN (ls' := [(4, .null), (3, .ref (lo W (qK x1))), (0, .ref (lo W 0)), (1, .int (iz x1)), (2, .int (iz x2))]) (cc3 c67_11) (by decide) rfl ?_
      refine p_ald (cc3 c67_13) rfl ?_
      refine p_ifnR (cc3 c67_14) ?_
      refine p_aldN (cc3 c67_17) rfl ?_
      refine p_ifnN (cc3 c67_19) ?_
      refine p_lc (ls' := []) c67_34 rfl rfl ?_
      refine i_push (n := (-2)) (cct c67_34 rfl) zl_m2 ?_
      exact p_ri (cc3 c67_36) trivial h
    · have h := h.2 c
      refine p_ast (ls' := [(4, .ref (lo W (qB x2))), (3, .ref (lo W (qK x1))), (0, .ref (lo W 0)), (1, .int (iz x1)), (2, .int (iz x2))]) (cc3 c67_11) (by decide) rfl ?_
      refine p_ald (cc3 c67_13) rfl ?_
      refine p_ifnR (cc3 c67_14) ?_
      refine p_ald (cc3 c67_17) rfl ?_
      refine p_ifnR (cc3 c67_19) ?_
      refine p_ald (cc3 c67_22) rfl ?_
      refine p_ald (cc3 c67_23) rfl ?_
      obtain ⟨g2, h⟩ := h
      obtain ⟨g3, h⟩ := h
      refine w_getp0 hW hT.1 (cc3 c67_25) g2 (ji := 0) rfl g3 ?_
      obtain ⟨g4, h⟩ := h
      obtain ⟨g5, h⟩ := h
      refine p_callV (cc3 c67_28) (Nat.le_of_ble_eq_true rfl) rfl rfl (Nat.le_of_ble_eq_true rfl) (wk_kd hW (by decide) g4) (S68 (Nat.le_trans (by decide) hd) hW hR hT hG ⟨g4, g5⟩) ?_
      refine i_ifB (cc3 c67_31) (fun c => ?_) (fun c => ?_)
      · have h := h.1 c
        refine p_lc (ls' := []) c67_34 rfl rfl ?_
        refine i_push (n := (-2)) (cct c67_34 rfl) zl_m2 ?_
        exact p_ri (cc3 c67_36) trivial h
      · have h := h.2 c
        refine p_ald (cc3 c67_37) rfl ?_
        refine w_getp hW hT.1 (b := 8) (cc3 c67_38) (st_k hT 0 12 (by decide)) (ji := 3) rfl (st_p hT 0 3 8 (by decide)) ?_
        refine p_ald (cc3 c67_41) rfl ?_
        refine p_ald (cc3 c67_42) rfl ?_
        obtain ⟨g6, h⟩ := h
        obtain ⟨g7, h⟩ := h
        obtain ⟨g8, h⟩ := h
        obtain ⟨g9, h⟩ := h
        obtain ⟨r_1, A_1, P_1, he, hr_1, hR_1, hT_1, hp_1⟩ := S69 (A := A) (P := P) (Nat.le_trans (by decide) hd) hW hR hT hG ⟨g6, g7, g8, g9⟩
        have h := h r_1 A_1 P_1 hr_1 hR_1 hT_1 hp_1
        refine p_callV (cc3 c67_44) (Nat.le_of_ble_eq_true rfl) rfl rfl (Nat.le_of_ble_eq_true rfl) (wk_kd hW (by decide) (st_k hT 8 4 (by decide))) he ?_
        refine p_ist (ls' := [(5, .int (iz r_1)), (4, .ref (lo W (qB x2))), (3, .ref (lo W (qK x1))), (0, .ref (lo W 0)), (1, .int (iz x1)), (2, .int (iz x2))]) (cc3 c67_47) (by decide) rfl ?_
        refine p_ild (cc3 c67_49) rfl ?_
        refine i_push (n := (-1)) (cc3 c67_51) zl_m1 ?_
        refine i_icmp (c' := r_1 = (-1)) (cc3 c67_52) (iz_inj hr_1 (by decide : Rg (-1 : Int))) (fun c => ?_) (fun c => ?_)
        · have h := h.1 c
          refine p_lc (ls' := [(5, .int (iz r_1))]) c67_73 rfl rfl ?_
          refine p_ild (cct c67_73 rfl) rfl ?_
          exact p_ri (cc3 c67_75) trivial h
        · have h := h.2 c
          refine p_ald (cc3 c67_55) rfl ?_
          refine w_getp hW hT_1.1 (b := 8) (cc3 c67_56) (st_k hT_1 0 12 (by decide)) (ji := 3) rfl (st_p hT_1 0 3 8 (by decide)) ?_
          refine p_ald (cc3 c67_59) rfl ?_
          obtain ⟨g10, h⟩ := h
          refine w_getp hW hT_1.1 (b := (qK x1) + 1) (cc3 c67_60) g4 (ji := 10) rfl g10 ?_
          obtain ⟨g11, h⟩ := h
          obtain ⟨g12, h⟩ := h
          obtain ⟨g13, h⟩ := h
          obtain ⟨A_2, he, hR_2, hp_2⟩ := S83 (A := A_1) (P := P_1) (Nat.le_trans (by decide) hd) hW hR_1 hT_1 hG ⟨g11, g12, g13⟩
          have h := h A_2 hR_2 hp_2
          refine p_callV (cc3 c67_63) (Nat.le_of_ble_eq_true rfl) rfl rfl (Nat.le_of_ble_eq_true rfl) (wk_kd hW (by decide) (st_k hT_1 8 4 (by decide))) he ?_
          refine p_ald (cc3 c67_66) rfl ?_
          refine p_ald (cc3 c67_67) rfl ?_
          refine p_ild (cc3 c67_69) rfl ?_
          obtain ⟨A_3, P_3, he, hR_3, hT_3, hp_3⟩ := S85 (A := A_2) (P := P_1) (Nat.le_trans (by decide) hd) hW hR_2 hT_1 hG rr.2 ⟨g4, g2⟩
          have h := h A_3 P_3 hR_3 hT_3 hp_3
          refine p_callV (cc3 c67_70) (Nat.le_of_ble_eq_true rfl) rfl rfl (Nat.le_of_ble_eq_true rfl) (wk_kd hW (by decide) g4) he ?_
          refine p_lc (ls' := [(5, .int (iz r_1))]) c67_73 rfl rfl ?_
          refine p_ild (cct c67_73 rfl) rfl ?_
          exact p_ri (cc3 c67_75) trivial h
theorem S67 {d : Nat} (hd : 6 ≤ d) {W : gW} (hW : HW W) {A : Nat → Int → Int} {P : Nat → Int → Nat} (hR : RG A) (hT : Stat W P) (hG : GL W) {x1 x2 : Int} (rr : Rg x1 ∧ Rg x2) (hp : (RelA W P A)) : ∃ (r : Int) (A' : Nat → Int → Int) (P' : Nat → Int → Nat), xev xT d 67 [.ref (lo W 0), .int (iz x1), .int (iz x2)] (Wm W A P) (some (.int (iz r))) (Wm W A' P') ∧ Rg r ∧ RG A' ∧ Stat W P' ∧ (LayP (mo A) A P x1 x2 r A' P') := by
  refine xev_g (i := 67) (as := [.ref (lo W 0), .int (iz x1), .int (iz x2)]) (σ := Wm W A P) (Q := fun r_ σ_ => ∃ (r : Int) (A' : Nat → Int → Int) (P' : Nat → Int → Nat), r_ = (some (.int (iz r))) ∧ σ_ = Wm W A' P' ∧ Rg r ∧ RG A' ∧ Stat W P' ∧ (LayP (mo A) A P x1 x2 r A' P')) (D := 5) hd (Nat.le_of_ble_eq_true rfl) (fun r_ σ_ he hq => ?_) (fun d hd => V67_0 hd hW hR hT hG rr ?_)
  · obtain ⟨r, A', P', rfl, rfl, hq⟩ := hq
    exact ⟨r, A', P', he, hq⟩

  obtain ⟨hn1, hn2, hn3, hn4, hn5, hn6⟩ := hp.cn
  have out : ¬ m_layok (mo A) x1 x2 → ∃ (r : Int) (A' : Nat → Int → Int) (P' : Nat → Int → Nat), some (Value.int (iz (-2))) = some (Value.int (iz r)) ∧ Wm W A P = Wm W A' P' ∧ Rg r ∧ RG A' ∧ Stat W P' ∧ LayP (mo A) A P x1 x2 r A' P' := fun z => ⟨-2, A, P, rfl, rfl, by decide, hR, hT, fun _ => ⟨rfl, rfl, rfl⟩, fun y => absurd y z⟩
  have b8 := hp.ok.2.1.1
  have k8 := hp.ok.2.2.1.1
  refine ⟨hp.cto, fun z => ⟨fun _ => out (fun w => z (by have := w.1; omega)), fun _ => out (fun w => z (by have := w.1; omega))⟩, fun z => ⟨fun z2 => out (fun w => z2 (by have := w.2.1; omega)), fun z2 => ?_⟩⟩
  have q := Classical.not_not.mp z
  have q2 := Classical.not_not.mp z2
  have k1 : x1 < mo A 0 13 := by omega
  have b1 : x2 < mo A 0 8 := by omega
  have ki := hp.ki q.1 k1
  have hk := (hp.ok.2.2.1.2 x1 q.1 k1).1
  obtain ⟨n0, n1, n2, n3, n4, n5, n6, n7, n8, n9, n12⟩ := ki.2.2.1
  obtain ⟨v1, v2, v3⟩ := hp.ok.2.1.2 x2 q2.1 b1
  have hS := hp.se v1.1 v1.2
  have hB := hp.bo q2.1 b1
  have eb : P (qB x2) 0 = qS (mo A 7 x2) + 1 := hB.2.2.2
  have e2 : P (qB x2) 0 - 1 = qS (mo A 7 x2) := by rw [eb, Nat.add_sub_cancel]
  have e0 := hS.2.1.1
  have qk := qK_d (s := x1)
  have qb := qB_d (s := x2)
  have qs := qS_d (s := mo A 7 x2)
  have hcond : (A (qK x1) 9 = 0 ∨ (0 ≤ A (qK x1) 5 ∧ A (qK x1) 5 < A (qS (mo A 7 x2)) 0)) ↔ m_hasS (mo A) x1 (mo A 7 x2) := by
    unfold m_hasS
    rw [n9, n5, e0]
    have := hk.2.2.2.2.2.1
    constructor
    · rintro (y | y)
      · exact Or.inl y
      · exact Or.inr y.2
    · rintro (y | y)
      · exact Or.inl y
      · exact Or.inr ⟨this.1, y⟩
  rw [e2]
  refine ⟨hB.1.1.1, by omega, ki.1.1, hS.1.1.1, fun y => out (fun w => y (hcond.mpr w.2.2)), fun y => ⟨ki.1, hB.1, hS.1, ⟨by omega, by omega, by omega⟩, fun r_1 A1 P1 rr1 RA1 TP1 hq => ?_⟩⟩
  have ok : m_layok (mo A) x1 x2 := ⟨by omega, by omega, hcond.mp y⟩
  obtain ⟨hq1, hL, hq3⟩ := hq
  rw [eb] at hq1
  change P1 = PLy P (qK x1) (qB x2) (qS (mo A 7 x2)) at hq1
  subst hq1
  obtain ⟨p5, p6, p7⟩ := PLy_5 (P := P) (k := qK x1) (b := qB x2) (s := qS (mo A 7 x2))
  obtain ⟨hF, z82, z83, z10, hI, h84⟩ := id hL
  have r1 : ∀ c, ¬ c = 8 → ¬ c = 9 → ¬ c = 10 → A1 c = A c := fun c q1 q2 q3 => hF.1 c (by simp; omega) q1
  have oki : OKi W (PLy P (qK x1) (qB x2) (qS (mo A 7 x2))) A (qK x1) := by
    have := ki.1
    unfold OKi OLg at this ⊢
    rw [PLy_n (by omega), PLy_n (by omega)]
    exact this
  have obt : OBt W (PLy P (qK x1) (qB x2) (qS (mo A 7 x2))) A (qB x2) := by
    have := hB.1
    unfold OBt at this ⊢
    rw [PLy_n (by omega)]
    exact this
  have ost : OSt W (PLy P (qK x1) (qB x2) (qS (mo A 7 x2))) A (qS (mo A 7 x2)) := by
    have := hS.1
    unfold OSt at this ⊢
    rw [PLy_n (by omega)]
    exact this
  have lyc : ∀ B : Nat → Int → Int, (∀ c, ¬ c = 8 → ¬ c = 9 → ¬ c = 10 → B c = A c) → LyC W (PLy P (qK x1) (qB x2) (qS (mo A 7 x2))) B := fun B hB => by
    unfold LyC
    rw [p5, p6, p7]
    simp only [Nat.add_sub_cancel]
    exact ⟨⟨by omega, by omega, by omega⟩, oki.c (hB _ (by omega) (by omega) (by omega)), obt.c (hB _ (by omega) (by omega) (by omega)), ost.c (hB _ (by omega) (by omega) (by omega)) (hB _ (by omega) (by omega) (by omega)), by omega, by omega, by omega⟩
  have lya := lyc A (fun _ _ _ _ => rfl)
  have h4 := ki.1.2.2.2.1
  have h6 := ki.1.2.2.2.2.2.2.1
  have yb : ∀ p : Nat, p ≤ 24 → 0 ≤ yk0 A (qK x1) (qS (mo A 7 x2)) ∧ yk0 A (qK x1) (qS (mo A 7 x2)) ≤ 400 ∧ 0 ≤ ykX A (qK x1) (qS (mo A 7 x2)) ∧ ykX A (qK x1) (qS (mo A 7 x2)) ≤ 3200 ∧ ykX A (qK x1) (qS (mo A 7 x2)) ≤ ykf A (qK x1) (qS (mo A 7 x2)) p ∧ ykf A (qK x1) (qS (mo A 7 x2)) p ≤ 3200 + p * 300 := fun p hp => by
    have := ykf_b lya hp
    rw [p5, p7] at this
    exact this
  have y0 := yb ((A (qK x1) 4).toNat - 1) (by omega)
  have yc := cen_b (x := ykf A (qK x1) (qS (mo A 7 x2)) ((A (qK x1) 4).toNat - 1) + A (qK x1) 6) (y := ykH A (qK x1)) (s := 0) hS.1
  have yu : 0 ≤ yku A (qK x1) (qS (mo A 7 x2)) ∧ yku A (qK x1) (qS (mo A 7 x2)) ≤ 100000 := by unfold yku; omega
  have e84 := ksr_r (A := A1) (k := qK x1) (b := qB x2) (s := qS (mo A 7 x2)) (by rw [r1 _ (by omega) (by omega) (by omega)]; exact h4) 4 (by decide)
  rw [← h84] at e84
  have er : r_1 = -1 ↔ A1 8 4 = -1 := by
    rw [hq3]
    by_cases c : A1 8 4 = -1
    · rw [if_pos c]; exact ⟨fun _ => c, fun _ => rfl⟩
    · rw [if_neg c]
      refine ⟨fun z => absurd z ?_, fun z => absurd z c⟩
      have g1 : 0 ≤ A1 8 4 * A1 (qS (mo A 7 x2)) 1 := Int.mul_nonneg (by omega) (by rw [r1 _ (by omega) (by omega) (by omega)]; have := hS.1.2.2.1.2.1; omega)
      have g2 := ki.1.2.2.2.2.2.2.2.1
      have g3 : A1 (qK x1) 7 = A (qK x1) 7 := by rw [r1 _ (by omega) (by omega) (by omega)]
      unfold k_usd
      rw [g3, z83]
      omega
  refine ⟨fun w => ⟨r_1, A1, _, rfl, rfl, rr1, RA1, TP1, fun z => absurd ok z, fun _ => ⟨A1, hL, fun _ => ⟨w, rfl, rfl⟩, fun z => absurd (er.mp w) z⟩⟩, fun w => ?_⟩
  have hn : ¬ A1 8 4 = -1 := fun z => w (er.mpr z)
  rw [p5, p6, p7]
  simp only [Nat.add_sub_cancel]
  refine ⟨by rw [PLy_n (by omega)]; exact ki.1.2.1, lyc A1 r1, trivial, ⟨by rw [z82]; omega, by rw [z83]; exact yu, by omega, fun p p0 p1 => ?_⟩, fun A2 RA2 hTr A3 P3 RA3 TP3 hq4 => ?_⟩
  · rw [r1 _ (by omega) (by omega) (by omega)] at p1
    obtain ⟨n, rfl⟩ := Int.eq_ofNat_of_zero_le p0
    have := yb n (by omega)
    rw [z10 n p1]
    omega
  · obtain ⟨e3, e4⟩ := hq4
    refine ⟨r_1, A3, P3, rfl, rfl, rr1, RA3, TP3, fun z => absurd ok z, fun _ => ⟨A1, hL, fun z => absurd z hn, fun _ => ⟨?_, A2, hTr, e3, e4⟩⟩⟩
    rw [hq3, if_neg hn]
theorem cl_10 {W : gW} {P : Nat → Int → Nat} {A : Nat → Int → Int} (h : Sta W P A) {x1 x2 : Int} (rr : Rg x1 ∧ Rg x2) : Cll 67 148 [.int (iz x1), .int (iz x2)] W P A := by
  have hr := h.2.2.2.2
  have k8 := hr.ok.2.2.1.1
  have b8 := hr.ok.2.1.1
  have qk := qK_d (s := x1)
  obtain ⟨r, A', P', hx, r1, r2, r3, r4⟩ := S67 (d := 190) (by decide) h.1 h.2.1 h.2.2.1 h.2.2.2.1 rr hr
  by_cases ok : m_layok (mo A) x1 x2
  · obtain ⟨A1, hL, c1, c2⟩ := r4.2 ok
    obtain ⟨⟨k0, k1⟩, ⟨b0, b1⟩, hs⟩ := ok
    have ok : m_layok (mo A) x1 x2 := ⟨⟨k0, k1⟩, ⟨b0, b1⟩, hs⟩
    have qb := qB_d (s := x2)
    have v1 := (hr.ok.2.1.2 x2 b0 (by omega)).1
    have s4 := hr.ok.1.1
    have qs := qS_d (s := mo A 7 x2)
    have hLT := lyT_of hL (by omega) (by omega)
    obtain ⟨hF, -, -, -, hI, h84⟩ := id hL
    have e1 : ∀ c, ¬ c = 8 → ¬ c = 9 → ¬ c = 10 → A1 c = A c := fun c q1 q2 q3 => hF.1 c (by simp; omega) q1
    have hLM : LyM A1 (qK x1) (qB x2) (qS (mo A 7 x2)) (mo A) x1 x2 (mo A 7 x2) := (lyM_lay hr k0 (by omega) b0 (by omega) hs).same2 (e1 _ (by omega) (by omega) (by omega)) (e1 _ (by omega) (by omega) (by omega)) (e1 _ (by omega) (by omega) (by omega)) (e1 _ (by omega) (by omega) (by omega)) (e1 _ (by omega) (by omega) (by omega))
    obtain ⟨y1, y2⟩ := lay_k hLM hLT hI h84
    by_cases c : A1 8 4 = -1
    · obtain ⟨w1, w2, w3⟩ := c1 c
      rw [if_pos c] at y1
      have pn : ∀ q : Nat, ¬ q = 8 → P' q = P q := fun q hq => by rw [w3]; exact PLy_n hq
      have hR0 : Rel W P' A' (mo A) := hr.gen (fun q _ z _ => pn q z) (fun q _ _ _ _ => by rw [w2]; exact e1 q (by omega) (by omega) (by omega)) (fun _ _ _ => eqS.rf) (fun _ _ _ => eqT.rf) ⟨rfl, rfl, rfl, rfl⟩ (by rw [w2, e1 0 (by decide) (by decide) (by decide)]; exact ⟨rfl, rfl, rfl⟩) (by unfold RCn; rw [w2, e1 0 (by decide) (by decide) (by decide), e1 1 (by decide) (by decide) (by decide)]; exact hr.cn) (hr.tp.same (by rw [w2, e1 1 (by decide) (by decide) (by decide)]) (by rw [w2, e1 2 (by decide) (by decide) (by decide)])) (hr.boS (fun q _ _ => pn q (by omega)) (fun q _ _ => by rw [w2]; exact e1 q (by omega) (by omega) (by omega)) (fun _ _ _ => eqB.rf)) (hr.kiS (fun q _ _ => pn q (by omega)) (fun q _ _ => by rw [w2]; exact e1 q (by omega) (by omega) (by omega)) (fun _ _ _ => ⟨eqK.rf, eqL.rf⟩) rfl eqS.rf) (hr.shS (fun q _ _ => pn q (by omega)) (fun q _ _ => by rw [w2]; exact e1 q (by omega) (by omega) (by omega)) (fun _ _ _ => eqH.rf)) (by rw [w2, e1 14 (by decide) (by decide) (by decide)]; exact hr.cu) hr.ok.2.1 hr.ok.2.2.1 hr.ok.2.2.2.1 hr.ok.2.2.2.2.2
      obtain ⟨rm, M', hm, m1, m2, m3, m4⟩ := S148 (d := 190) (by decide) (h.ml2 (W := W) r3.1 hR0.mod A') (rg_mo h.2.1) rr ⟨hr.ok.1, hr.ok.2.1, hr.ok.2.2.1⟩
      obtain ⟨m5, m6⟩ := (m4 ok).1 y1
      rw [w1, ← m5] at hx
      refine stp_m2 hx (mo_n fun q hq => by rw [w2]; exact e1 q (by omega) (by omega) (by omega)) hm h.1 r2 m2 r3 h.2.2.2.1 ?_ ⟨⟨rfl, rfl, rfl⟩, ⟨rfl, rfl⟩, by rw [w2]; exact e1 540 (by decide) (by decide) (by decide)⟩ ⟨Nat.le_add_right _ _, Nat.le_add_right _ _⟩
      refine hR0.mnf (fun q j z => ?_) (fun j hj => ?_)
      · unfold bfRows ndRows at z
        by_cases e : q = 0
        · subst e; exact m6.2 j (by simp; omega)
        · rw [m6.1 q (by simp; omega) e]
      · rw [hR0.cu j hj, m6.1 41 (by decide) (by decide)]
    · obtain ⟨w1, A2, hTr, w2, w3⟩ := c2 c
      rw [if_neg c] at y1
      have y3 := (y2 c).1
      have pn : ∀ q : Nat, ¬ q = 8 → ¬ q = qK x1 → P' q = P q := fun q hq hq2 => by rw [w3, UP_n hq2]; exact PLy_n hq
      have hk := (hr.ki k0 (by omega)).1
      have a2 : ∀ q, ¬ q = 8 → ¬ q = 9 → ¬ q = 10 → ¬ (qK x1 ≤ q ∧ q < qK x1 + 4) → A' q = A q := fun q q1 q2 q3 q4 => by rw [w2, UA_n (by omega), UA_n (by omega), UA_n (by omega), hTr.1.1 q (by simp; omega) (by omega)]; exact e1 q q1 q2 q3
      have hmod : RMo W P' := by
        have := hr.mod
        unfold RMo at this ⊢
        rw [pn 1000 (by decide) (by omega)]
        exact this
      obtain ⟨rm, M', hm, m1, m2, m3, m4⟩ := S148 (d := 190) (by decide) (h.ml2 (W := W) r3.1 hmod A') (rg_mo h.2.1) rr ⟨hr.ok.1, hr.ok.2.1, hr.ok.2.2.1⟩
      obtain ⟨m5, m6⟩ := (m4 ok).2 (by rw [y1]; omega)
      rw [w1, ← y1, ← m5] at hx
      refine stp_m2 hx (mo_n fun q hq => a2 q (by omega) (by omega) (by omega) (by omega)) hm h.1 r2 m2 r3 h.2.2.2.1 ?_ ⟨⟨rfl, rfl, rfl⟩, ⟨rfl, rfl⟩, a2 540 (by decide) (by decide) (by decide) (by omega)⟩ ⟨Nat.le_add_right _ _, Nat.le_add_right _ _⟩
      rw [w2]
      exact Rel.laid hr k0 (by omega) b0 (by omega) (laid_f hr k0 (by omega) b0 (by omega) hs hL c hTr m6) m6 pn (fun j hj => by rw [w3, UP_j hj, PLy_n (by omega)]) (by rw [w3, UP_e])
  · obtain ⟨w1, w2, w3⟩ := r4.1 ok
    obtain ⟨rm, M', hm, m1, m2, m3, m4⟩ := S148 (d := 190) (by decide) (h.ml2 (W := W) h.2.2.1.1 hr.mod A) (rg_mo h.2.1) rr ⟨hr.ok.1, hr.ok.2.1, hr.ok.2.2.1⟩
    obtain ⟨m5, m6⟩ := m3 ok
    rw [w1, w2, w3, ← m5] at hx
    rw [m6] at hm
    exact stp_ro h hx hm
