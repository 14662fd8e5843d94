theorem Rel.fin {W W' : gW} {P P' : Nat → Int → Nat} {A A' M M' : Nat → Int → Int} (h : Rel W P A M) {N : Nat → Prop} (hN : ∀ c, N c → gK W c = 0 ∧ 100 ≤ c ∧ c < 500) (eN : ∀ c, ¬ N c → gK W' c = gK W c ∧ gL W' c = gL W c ∧ lo W' c = lo W c) (eP : ∀ c, 20 ≤ c → ¬ N c → P' c = P c) (eA : ∀ c, 8 ≤ c → ¬ N c → A' c = A c) (eS : ∀ s : Int, 0 ≤ s → s < M 0 2 → eqS M M' s) (eB : ∀ b : Int, eqB M M' b) (eK : ∀ k : Int, eqK M M' k ∧ eqL M M' k) (eT : ∀ t : Int, 0 ≤ t → t < M 0 42 → eqT M M' t) (eH : ∀ s : Int, eqH M M' s)
    (p17 : P' 17 = P 17 ∧ P' 18 = P 18) (p16 : ∀ s : Int, 0 ≤ s → s < M 0 2 → P' 16 s = P 16 s) (p19 : ∀ t : Int, 0 ≤ t → t < M 0 42 → P' 19 t = P 19 t) (a0 : A' 0 11 = A 0 11 ∧ A' 0 12 = A 0 12 ∧ A' 0 14 = A 0 14) (a10 : A' 0 10 = M' 0 2) (a13 : A' 0 13 = M' 0 42) (a11 : A' 1 1 = 0) (m0 : M' 0 8 = M 0 8 ∧ M' 0 13 = M 0 13 ∧ M' 0 43 = M 0 43 ∧ M' 0 1 = 0) (m1 : M' 1 = M 1) (m41 : M' 41 = M 41) (m43 : M' 43 = M 43 ∧ M' 44 = M 44)
    (s2 : M' 0 2 = M 0 2 ∨ (M' 0 2 = M 0 2 + 1 ∧ M 0 2 < 4 ∧ P' 16 (M 0 2) = qS (M 0 2) + 1 ∧ RSe W' P' A' M' (M 0 2) ∧ SettOK M' (M 0 2))) (s42 : M' 0 42 = M 0 42 ∨ (M' 0 42 = M 0 42 + 1 ∧ M 0 42 < 6 ∧ RTx W' P' A' M' (M 0 42))) (wb : RWb W' P' A' M') (fr : RFr W' M') : Rel W' P' A' M' := by
  obtain ⟨oS0, oB0, oK0, oH0, oT0, oR0⟩ := h.ok
  obtain ⟨hn1, hn2, hn3, hn4, hn5, hn6⟩ := h.cn
  have hcs := h.cto.1
  have le2 : M 0 2 ≤ M' 0 2 := by rcases s2 with e | e <;> omega
  have s4 := oS0.1
  obtain ⟨c1, c2, c3, c4, c5, c6, c7, c8⟩ := h.old hN eN eP eA eS (fun b _ _ => eB b) (fun k _ _ => eK k) eT (fun s _ _ => eH s) le2 p19
  have p20 : P' 20 = P 20 := eP 20 (by decide) (fun z => by have := (hN 20 z).2; omega)
  refine ⟨⟨⟨by rw [a10]; omega, by rw [a0.1]; exact hcs.2.1, by rw [a0.2.1]; exact hcs.2.2⟩, fun s z0 z1 => ?_, ?_, ?_, ?_⟩, ⟨a10, by rw [a0.1, m0.1, hn2], by rw [a0.2.1, m0.2.1, hn3], a13, by rw [a0.2.2, m0.2.2.1, hn5], by rw [a11, m0.2.2.2]⟩, ⟨by rw [a11]; decide, by rw [m1]; exact h.tp.2.1, fun i i0 i1 => by rw [a11] at i1; omega⟩, fun s z0 z1 => ?_, fun b z0 z1 => c2 b z0 (by rw [m0.1] at z1; exact z1), wb, fun k z0 z1 => c3 k z0 (by rw [m0.2.1] at z1; exact z1), fun t z0 z1 => ?_, c5, by rw [c6, m41]; exact h.cu, fr, c7, c8, ⟨⟨by omega, fun s z0 z1 => ?_⟩, ⟨by rw [m0.1]; exact oB0.1, fun b z0 z1 => ?_⟩, ⟨by rw [m0.2.1]; exact oK0.1, fun k z0 z1 => ?_⟩, oH0.same m43.1 m43.2, ?_, ?_⟩⟩
  · rw [a10] at z1
    by_cases e : s < M 0 2
    · rw [p16 s z0 e]; exact h.cto.2.1 s z0 (by omega)
    · rcases s2 with q | q
      · omega
      · have e2 : s = M 0 2 := by omega
        rw [e2]; exact q.2.2.1
  · rw [a0.1, p17.1]; exact h.cto.2.2.1
  · rw [a0.2.1, p17.2]; exact h.cto.2.2.2.1
  · rw [p20]; exact h.cto.2.2.2.2
  · by_cases e : s < M 0 2
    · exact c1 s z0 e
    · rcases s2 with q | q
      · omega
      · have e2 : s = M 0 2 := by omega
        rw [e2]; exact q.2.2.2.1
  · by_cases e : t < M 0 42
    · exact c4 t z0 e
    · rcases s42 with q | q
      · omega
      · have e2 : t = M 0 42 := by omega
        rw [e2]; exact q.2.2
  · by_cases e : s < M 0 2
    · exact (oS0.2 s z0 e).same (eS s z0 e)
    · rcases s2 with q | q
      · omega
      · have e2 : s = M 0 2 := by omega
        rw [e2]; exact q.2.2.2.2
  · rw [m0.1] at z1
    exact (oB0.2 b z0 z1).same (eB b) le2
  · rw [m0.2.1] at z1
    obtain ⟨w1, w2⟩ := oK0.2 k z0 z1
    exact ⟨w1.same (eK k).1 (eK k).2.1, w2.same w1 (eK k).1 (eK k).2 (by rw [m0.1]; exact Int.le_refl _)⟩
  · rcases s42 with q | q <;> omega
  · rw [m0.2.2.1]; rcases s42 with q | q <;> omega
theorem Rel.wbN {W : gW} {P P' : Nat → Int → Nat} {A A' M M' : Nat → Int → Int} (h : Rel W P A M) (eP : ∀ c, 20 ≤ c → P' c = P c) (eA : ∀ c, 8 ≤ c → A' c = A c) (h0 : P' 0 15 = P 0 15) (e : M' 0 2 = M 0 2) : RWb W P' A' M' := h.wbS (N := fun _ => False) (fun _ z => z.elim) (fun _ _ => ⟨rfl, rfl⟩) (fun c q _ => eP c q) (fun c q _ => eA c q) h0 e
theorem Rel.frN {W : gW} {P : Nat → Int → Nat} {A M M' : Nat → Int → Int} (h : Rel W P A M) (e : M' 0 2 = M 0 2 ∧ M' 0 8 = M 0 8 ∧ M' 0 13 = M 0 13 ∧ M' 0 42 = M 0 42) : RFr W M' := by
  have z := h.fr
  unfold RFr at z ⊢
  rw [e.1, e.2.1, e.2.2.1, e.2.2.2]; exact z
theorem cv_1 {t : Int → Int} {n p : Int} (h : dg t n 1 p) : 1 ≤ cv t n p := by
  have d1 : dv t p 1 = t p - 48 := by show 10 * 0 + t (p + ((0 : Nat) : Int)) - 48 = _; rw [show p + ((0 : Nat) : Int) = p by omega]; omega
  have d2 : dv t p 2 = 10 * dv t p 1 + t (p + 1) - 48 := rfl
  have d3 : dv t p 3 = 10 * dv t p 2 + t (p + 2) - 48 := rfl
  obtain ⟨h1, h2, h3⟩ := h
  have e0 : cv t n p = dv t p (nd t n p).toNat := rfl
  rw [e0]
  unfold nd
  rw [if_neg (fun z => z ⟨h1, h2, h3⟩)]
  by_cases c1 : dg t n 0 (p + 1)
  · rw [if_neg (fun z => z c1)]
    by_cases c2 : dg t n 0 (p + 2)
    · rw [if_neg (fun z => z c2)]
      show 1 ≤ dv t p 3
      have q1 := c1.2
      have q2 := c2.2
      omega
    · rw [if_pos c2]
      show 1 ≤ dv t p 2
      have q1 := c1.2
      omega
  · rw [if_pos c1]
    show 1 ≤ dv t p 1
    omega
/-- a FAULT that is none: the sett stands there -/
theorem flt_n {t : Int → Int} {n : Int} {K : Nat} (h0 : 0 ≤ srq t n K) (h : srFault t n K = -1) : srOK t n (srq t n K) ∧ srE t n (srq t n K) < n ∧ (t (srE t n (srq t n K)) = 47 ∨ t (srE t n (srq t n K)) = 59) := by
  have b := nd_b (t := t) (n := n) (p := srq t n K + 1)
  unfold srFault at h
  by_cases c1 : srOK t n (srq t n K)
  · rw [if_neg (fun z => z c1)] at h
    by_cases c2 : srE t n (srq t n K) < n ∧ (t (srE t n (srq t n K)) = 47 ∨ t (srE t n (srq t n K)) = 59)
    · exact ⟨c1, c2⟩
    · rw [if_neg c2] at h
      unfold srE at h
      omega
  · rw [if_pos c1] at h
    unfold srF at h
    split at h <;> omega
def SPost (M M' : Nat → Int → Int) (r : Int) : Prop := (M 0 2 = 4 → r = -4 ∧ M' = M) ∧ (¬ M 0 2 = 4 → SFr (M 0 2) [1, 2, 46] M M' ∧ M' 0 1 = 0 ∧ ∃ K : Nat, K ≤ 9 ∧ srK (M 1) (M 0 1) K ∧ (¬ srFault (M 1) (M 0 1) K = -1 → r = -100 - srFault (M 1) (M 0 1) K ∧ M' 0 2 = M 0 2) ∧ (srFault (M 1) (M 0 1) K = -1 → (400 < srPer (M 1) (M 0 1) K → r = -9 ∧ M' 0 2 = M 0 2) ∧ (¬ 400 < srPer (M 1) (M 0 1) K → r = M 0 2 ∧ M' 0 2 = M 0 2 + 1 ∧ M' 3 (M 0 2) = srPer (M 1) (M 0 1) K ∧ M' 2 (M 0 2) = (K : Int) + 1 ∧ M' 6 (M 0 2) = bI (M 1 (srE (M 1) (M 0 1) (srq (M 1) (M 0 1) K)) = 47) ∧ srRead M M' (M 0 2) K)))
/-- after a sett that is not made -/
theorem Rel.noset {W : gW} {P : Nat → Int → Nat} {A A1 M M' : Nat → Int → Int} (h : Rel W P A M) (hF : Fo 3 [4, 5] [2, 3] A A1) (hS : SFr (M 0 2) [1, 2, 46] M M') (h01 : M' 0 1 = 0) (h02 : M' 0 2 = M 0 2) : Rel W P (UA A1 1 1 0) M' := by
  obtain ⟨hn1, hn2, hn3, hn4, hn5, hn6⟩ := h.cn
  have a : ∀ c, ¬ c = 1 → ¬ c = 3 → ¬ c = 4 → ¬ c = 5 → UA A1 1 1 0 c = A c := fun c z1 z3 z4 z5 => (UA_n z1).trans (hF.1 c (by simp; omega) z3)
  have mr : ∀ c, c ∉ [2, 3, 4, 5, 6] → ¬ c = 0 → M' c = M c := hS.1.1
  have m0 : ∀ j : Int, j ∉ [1, 2, 46] → M' 0 j = M 0 j := hS.1.2
  have eS : ∀ s : Int, 0 ≤ s → s < M 0 2 → eqS M M' s := fun s s0 s1 => ⟨hS.2.1 2 (by decide) s (by omega), hS.2.1 3 (by decide) s (by omega), hS.2.1 6 (by decide) s (by omega), fun k k0 k1 => ⟨hS.2.2 4 (by decide) _ (by omega), hS.2.2 5 (by decide) _ (by omega)⟩⟩
  refine h.fin (W' := W) (P' := P) (N := fun _ => False) (fun _ z => z.elim) (fun _ _ => ⟨rfl, rfl, rfl⟩) (fun _ _ _ => rfl) (fun c q _ => a c (by omega) (by omega) (by omega) (by omega)) eS (fun b => eqB_r (fun c hc => mr c (by revert hc; simp; omega) (by revert hc; simp; omega)) b) (fun k => ⟨eqK_r (fun c hc => mr c (by revert hc; simp; omega) (by revert hc; simp; omega)) k, eqL_r (fun c hc => mr c (by revert hc; simp; omega) (by revert hc; simp; omega)) k⟩) (fun t _ _ => eqT_r (fun c hc => mr c (by revert hc; simp; omega) (by revert hc; simp; omega)) t) (fun s => eqH_r (fun c hc => mr c (by revert hc; simp; omega) (by revert hc; simp; omega)) s) ⟨rfl, rfl⟩ (fun _ _ _ => rfl) (fun _ _ _ => rfl) (by rw [a 0 (by decide) (by decide) (by decide) (by decide)]; exact ⟨rfl, rfl, rfl⟩) (by rw [a 0 (by decide) (by decide) (by decide) (by decide), h02, hn1]) (by rw [a 0 (by decide) (by decide) (by decide) (by decide), m0 42 (by decide), hn4]) UA_eq ⟨m0 8 (by decide), m0 13 (by decide), m0 43 (by decide), h01⟩ (mr 1 (by decide) (by decide)) (mr 41 (by decide) (by decide)) ⟨mr 43 (by decide) (by decide), mr 44 (by decide) (by decide)⟩ (Or.inl h02) (Or.inl (m0 42 (by decide))) (h.wbN (fun _ _ => rfl) (fun c q => a c (by omega) (by omega) (by omega) (by omega)) rfl h02) (h.frN ⟨h02, m0 8 (by decide), m0 13 (by decide), m0 42 (by decide)⟩)
