/-- a kilt after its WIDTH NOW or its turning has changed -/
theorem RKi.let_ {W : gW} {P : Nat → Int → Nat} {A M : Nat → Int → Int} {k v : Int} (h : RKi W P A M k) (hk : KiltOK M k) (hl : 0 ≤ M 20 k) (hv : 1 ≤ v ∧ v ≤ 999) : RKi W P (UA A (qK k) 13 v) (UA M 25 k v) k := by
  obtain ⟨hO, hB, hn, hU, hL, hN⟩ := h
  have u : ∀ j : Int, ¬ j = 13 → UA A (qK k) 13 v (qK k) j = A (qK k) j := fun j q => UA_j q
  have r : ∀ c, ¬ c = qK k → UA A (qK k) 13 v c = A c := fun c q => UA_n q
  have m : ∀ c, ¬ c = 25 → UA M 25 k v c = M c := fun c q => UA_n q
  have e9 : ∀ c, ¬ c = 25 → UA M 25 k v c k = M c k := fun c q => by rw [m c q]
  refine ⟨?_, ?_, ?_, fun z => ?_, fun _ => ?_, ?_⟩
  · obtain ⟨o1, o2, o3, o4, o5, o6, o7, o8, o9, o10, o11⟩ := hO
    exact ⟨o1, o2, by rw [u 4 (by decide)]; exact o3, by rw [u 4 (by decide)]; exact o4, by rw [u 8 (by decide)]; exact o5, by rw [u 9 (by decide)]; exact o6, by rw [u 6 (by decide)]; exact o7, by rw [u 7 (by decide)]; exact o8, by rw [u 0 (by decide)]; exact o9, by rw [UA_eq]; omega, by rw [u 14 (by decide)]; exact o11⟩
  · intro j
    have := hB j
    unfold k_st at this ⊢
    rw [u 4 (by decide), r (qK k + 1 + 1) (by omega), r (qK k + 1) (by omega)]
    exact this
  · unfold RKn strd at hn ⊢
    rw [u 0 (by decide), u 1 (by decide), u 2 (by decide), u 3 (by decide), u 4 (by decide), u 5 (by decide), u 6 (by decide), u 7 (by decide), u 8 (by decide), u 9 (by decide), u 12 (by decide), e9 11 (by decide), e9 12 (by decide), e9 13 (by decide), e9 14 (by decide), e9 15 (by decide), e9 16 (by decide), e9 17 (by decide), e9 18 (by decide), e9 19 (by decide), e9 20 (by decide)]
    exact hn
  · rw [e9 20 (by decide)] at z; omega
  · obtain ⟨v1, v2, v3, v4, v5, v6, v7, v8, v9⟩ := hL hl
    unfold RKl
    rw [r (qK k + 1 + 1) (by omega), r (qK k + 1 + 2) (by omega), r (qK k + 1) (by omega), e9 20 (by decide), e9 21 (by decide), e9 22 (by decide), e9 18 (by decide), e9 23 (by decide), e9 24 (by decide), e9 15 (by decide), m 26 (by decide), m 27 (by decide)]
    exact ⟨v1, by rw [UA_eq, UA_eq], by rw [u 14 (by decide), m 28 (by decide)]; exact v3, v4, v5, v6, v7, v8, v9⟩
  · rw [u 15 (by decide)]
    exact hN.same hk (fun q => ⟨by rw [m 0 (by decide)]; exact q, eqS_r (fun c hc => by simp at hc; exact m c (by omega)) 0⟩) (eqK_r (fun c hc => by simp at hc; exact m c (by omega)) k)
theorem Rel.let_ {W : gW} {P : Nat → Int → Nat} {A M : Nat → Int → Int} {k v : Int} (h : Rel W P A M) (h0 : 0 ≤ k) (h1 : k < M 0 13) (hl : 0 ≤ M 20 k) (hv : 1 ≤ v ∧ v ≤ 999) (hc : ∀ p : Int, 0 ≤ p → p < M 15 k → m_loses M k p < v) : Rel W P (UA A (qK k) 13 v) (UA M 25 k v) := by
  obtain ⟨oS0, oB0, oK0, oH0, oT0, oR0⟩ := h.ok
  have k8 := oK0.1
  have qk := qK_d (s := k)
  have hk := oK0.2 k h0 h1
  have a : ∀ c, ¬ c = qK k → UA A (qK k) 13 v c = A c := fun c q => UA_n q
  have m : ∀ c, ¬ c = 25 → UA M 25 k v c = M c := fun c q => UA_n q
  have m0 : UA M 25 k v 0 = M 0 := m 0 (by decide)
  have a0 : UA A (qK k) 13 v 0 = A 0 := a 0 (by omega)
  have eS : ∀ s : Int, eqS M (UA M 25 k v) s := fun s => eqS_r (fun c hc => by simp at hc; exact m c (by omega)) s
  have eB : ∀ s : Int, eqB M (UA M 25 k v) s := fun s => eqB_r (fun c hc => by simp at hc; exact m c (by omega)) s
  have eK : ∀ s : Int, eqK M (UA M 25 k v) s := fun s => eqK_r (fun c hc => by simp at hc; exact m c (by omega)) s
  have eT : ∀ s : Int, eqT M (UA M 25 k v) s := fun s => eqT_r (fun c hc => by simp at hc; exact m c (by omega)) s
  have eH : ∀ s : Int, eqH M (UA M 25 k v) s := fun s => eqH_r (fun c hc => by simp at hc; exact m c (by omega)) s
  have eL : ∀ i : Int, ¬ i = k → eqL M (UA M 25 k v) i := fun i hi => ⟨by rw [m 20 (by decide)], by rw [m 21 (by decide)], by rw [m 22 (by decide)], by rw [m 23 (by decide)], by rw [m 24 (by decide)], UA_j hi, by rw [m 28 (by decide)], fun p _ _ => by rw [m 26 (by decide), m 27 (by decide)]; exact ⟨rfl, rfl⟩⟩
  refine h.gen (fun _ _ _ _ => rfl) (fun c q1 q2 q3 q4 => a c (by omega)) (fun s _ _ => eS s) (fun t _ _ => eT t) (by rw [m0]; exact ⟨rfl, rfl, rfl, rfl⟩) (by rw [a0]; exact ⟨rfl, rfl, rfl⟩) ?_ ?_ (h.boS (fun _ _ _ => rfl) (fun c _ _ => a c (by omega)) (fun b _ _ => eB b)) (fun i i0 i1 => ?_) (h.shS (fun _ _ _ => rfl) (fun c _ _ => a c (by omega)) (fun s _ _ => eH s)) ?_ (oB0.sm (fun b _ _ => eB b) (by rw [m0]) (by rw [m0])) ⟨by rw [m0]; exact k8, fun i i0 i1 => ?_⟩ (oH0.same (m 43 (by decide)) (m 44 (by decide))) (by rw [m0]; exact oR0)
  · unfold RCn; rw [a0, a 1 (by omega), m0]; exact h.cn
  · rw [m 1 (by decide)]; exact h.tp.same (a 1 (by omega)) (a 2 (by omega))
  · by_cases e : i = k
    · subst e; exact (h.ki i0 i1).let_ hk.1 hl hv
    · have qi := qK_d (s := i)
      exact (h.ki i0 i1).same (fun c q1 q2 => ⟨rfl, rfl, rfl, a c (by omega)⟩) (oK0.2 i i0 i1).1 (eK i) (eL i e) (fun q => ⟨by rw [m0]; exact q, eS 0⟩)
  · rw [a 14 (by omega), m 41 (by decide)]; exact h.cu
  · rw [m0] at i1
    refine ⟨(oK0.2 i i0 i1).1.same (eK i) (by rw [m 20 (by decide)]), ?_⟩
    by_cases e : i = k
    · subst e
      intro z
      obtain ⟨q1, q2, q3, q4, q5, q6, q7, q8⟩ := hk.2 hl
      rw [m 20 (by decide), m0, m 21 (by decide), m 22 (by decide), m 18 (by decide), m 23 (by decide), m 15 (by decide), m 26 (by decide)]
      exact ⟨q1, by rw [UA_eq]; omega, q3, q4, q5, q6, by rw [m 28 (by decide)]; exact q7, fun p p0 p1 => ⟨(q8 p p0 p1).1, by rw [los_eq (eK i), UA_eq]; exact hc p p0 p1⟩⟩
    · exact (oK0.2 i i0 i1).2.same (oK0.2 i i0 i1).1 (eK i) (eL i e) (by rw [m0]; exact Int.le_refl _)
/-- a kilt after its WIDTH NOW or its turning has changed -/
theorem RKi.trn {W : gW} {P : Nat → Int → Nat} {A M : Nat → Int → Int} {k v : Int} (h : RKi W P A M k) (hk : KiltOK M k) (hl : 0 ≤ M 20 k) (hv : v = 0 ∨ v = 1) : RKi W P (UA A (qK k) 14 v) (UA M 28 k v) k := by
  obtain ⟨hO, hB, hn, hU, hL, hN⟩ := h
  have u : ∀ j : Int, ¬ j = 14 → UA A (qK k) 14 v (qK k) j = A (qK k) j := fun j q => UA_j q
  have r : ∀ c, ¬ c = qK k → UA A (qK k) 14 v c = A c := fun c q => UA_n q
  have m : ∀ c, ¬ c = 28 → UA M 28 k v c = M c := fun c q => UA_n q
  have e9 : ∀ c, ¬ c = 28 → UA M 28 k v c k = M c k := fun c q => by rw [m c q]
  refine ⟨?_, ?_, ?_, fun z => ?_, fun _ => ?_, ?_⟩
  · obtain ⟨o1, o2, o3, o4, o5, o6, o7, o8, o9, o10, o11⟩ := hO
    exact ⟨o1, o2, by rw [u 4 (by decide)]; exact o3, by rw [u 4 (by decide)]; exact o4, by rw [u 8 (by decide)]; exact o5, by rw [u 9 (by decide)]; exact o6, by rw [u 6 (by decide)]; exact o7, by rw [u 7 (by decide)]; exact o8, by rw [u 0 (by decide)]; exact o9, by rw [u 13 (by decide)]; exact o10, by rw [UA_eq]; exact hv⟩
  · intro j
    have := hB j
    unfold k_st at this ⊢
    rw [u 4 (by decide), r (qK k + 1 + 1) (by omega), r (qK k + 1) (by omega)]
    exact this
  · unfold RKn strd at hn ⊢
    rw [u 0 (by decide), u 1 (by decide), u 2 (by decide), u 3 (by decide), u 4 (by decide), u 5 (by decide), u 6 (by decide), u 7 (by decide), u 8 (by decide), u 9 (by decide), u 12 (by decide), e9 11 (by decide), e9 12 (by decide), e9 13 (by decide), e9 14 (by decide), e9 15 (by decide), e9 16 (by decide), e9 17 (by decide), e9 18 (by decide), e9 19 (by decide), e9 20 (by decide)]
    exact hn
  · rw [e9 20 (by decide)] at z; omega
  · obtain ⟨v1, v2, v3, v4, v5, v6, v7, v8, v9⟩ := hL hl
    unfold RKl
    rw [r (qK k + 1 + 1) (by omega), r (qK k + 1 + 2) (by omega), r (qK k + 1) (by omega), e9 20 (by decide), e9 21 (by decide), e9 22 (by decide), e9 18 (by decide), e9 23 (by decide), e9 24 (by decide), e9 15 (by decide), m 26 (by decide), m 27 (by decide)]
    exact ⟨v1, by rw [u 13 (by decide), m 25 (by decide)]; exact v2, by rw [UA_eq, UA_eq], v4, v5, v6, v7, v8, v9⟩
  · rw [u 15 (by decide)]
    exact hN.same hk (fun q => ⟨by rw [m 0 (by decide)]; exact q, eqS_r (fun c hc => by simp at hc; exact m c (by omega)) 0⟩) (eqK_r (fun c hc => by simp at hc; exact m c (by omega)) k)
theorem Rel.trn {W : gW} {P : Nat → Int → Nat} {A M : Nat → Int → Int} {k v : Int} (h : Rel W P A M) (h0 : 0 ≤ k) (h1 : k < M 0 13) (hl : 0 ≤ M 20 k) (hv : v = 0 ∨ v = 1) : Rel W P (UA A (qK k) 14 v) (UA M 28 k v) := by
  obtain ⟨oS0, oB0, oK0, oH0, oT0, oR0⟩ := h.ok
  have k8 := oK0.1
  have qk := qK_d (s := k)
  have hk := oK0.2 k h0 h1
  have a : ∀ c, ¬ c = qK k → UA A (qK k) 14 v c = A c := fun c q => UA_n q
  have m : ∀ c, ¬ c = 28 → UA M 28 k v c = M c := fun c q => UA_n q
  have m0 : UA M 28 k v 0 = M 0 := m 0 (by decide)
  have a0 : UA A (qK k) 14 v 0 = A 0 := a 0 (by omega)
  have eS : ∀ s : Int, eqS M (UA M 28 k v) s := fun s => eqS_r (fun c hc => by simp at hc; exact m c (by omega)) s
  have eB : ∀ s : Int, eqB M (UA M 28 k v) s := fun s => eqB_r (fun c hc => by simp at hc; exact m c (by omega)) s
  have eK : ∀ s : Int, eqK M (UA M 28 k v) s := fun s => eqK_r (fun c hc => by simp at hc; exact m c (by omega)) s
  have eT : ∀ s : Int, eqT M (UA M 28 k v) s := fun s => eqT_r (fun c hc => by simp at hc; exact m c (by omega)) s
  have eH : ∀ s : Int, eqH M (UA M 28 k v) s := fun s => eqH_r (fun c hc => by simp at hc; exact m c (by omega)) s
  have eL : ∀ i : Int, ¬ i = k → eqL M (UA M 28 k v) i := fun i hi => ⟨by rw [m 20 (by decide)], by rw [m 21 (by decide)], by rw [m 22 (by decide)], by rw [m 23 (by decide)], by rw [m 24 (by decide)], by rw [m 25 (by decide)], UA_j hi, fun p _ _ => by rw [m 26 (by decide), m 27 (by decide)]; exact ⟨rfl, rfl⟩⟩
  refine h.gen (fun _ _ _ _ => rfl) (fun c q1 q2 q3 q4 => a c (by omega)) (fun s _ _ => eS s) (fun t _ _ => eT t) (by rw [m0]; exact ⟨rfl, rfl, rfl, rfl⟩) (by rw [a0]; exact ⟨rfl, rfl, rfl⟩) ?_ ?_ (h.boS (fun _ _ _ => rfl) (fun c _ _ => a c (by omega)) (fun b _ _ => eB b)) (fun i i0 i1 => ?_) (h.shS (fun _ _ _ => rfl) (fun c _ _ => a c (by omega)) (fun s _ _ => eH s)) ?_ (oB0.sm (fun b _ _ => eB b) (by rw [m0]) (by rw [m0])) ⟨by rw [m0]; exact k8, fun i i0 i1 => ?_⟩ (oH0.same (m 43 (by decide)) (m 44 (by decide))) (by rw [m0]; exact oR0)
  · unfold RCn; rw [a0, a 1 (by omega), m0]; exact h.cn
  · rw [m 1 (by decide)]; exact h.tp.same (a 1 (by omega)) (a 2 (by omega))
  · by_cases e : i = k
    · subst e; exact (h.ki i0 i1).trn hk.1 hl hv
    · have qi := qK_d (s := i)
      exact (h.ki i0 i1).same (fun c q1 q2 => ⟨rfl, rfl, rfl, a c (by omega)⟩) (oK0.2 i i0 i1).1 (eK i) (eL i e) (fun q => ⟨by rw [m0]; exact q, eS 0⟩)
  · rw [a 14 (by omega), m 41 (by decide)]; exact h.cu
  · rw [m0] at i1
    refine ⟨(oK0.2 i i0 i1).1.same (eK i) (by rw [m 20 (by decide)]), ?_⟩
    by_cases e : i = k
    · subst e
      intro z
      obtain ⟨q1, q2, q3, q4, q5, q6, q7, q8⟩ := hk.2 hl
      rw [m 20 (by decide), m0, m 21 (by decide), m 22 (by decide), m 18 (by decide), m 23 (by decide), m 15 (by decide), m 26 (by decide)]
      exact ⟨q1, by rw [m 25 (by decide)]; exact q2, q3, q4, q5, q6, by rw [UA_eq]; exact hv, fun p p0 p1 => ⟨(q8 p p0 p1).1, by rw [los_eq (eK i), m 25 (by decide)]; exact (q8 p p0 p1).2⟩⟩
    · exact (oK0.2 i i0 i1).2.same (oK0.2 i i0 i1).1 (eK i) (eL i e) (by rw [m0]; exact Int.le_refl _)
theorem canB_los {M : Nat → Int → Int} {k w : Int} : ∀ (r : Nat) (p : Int), canB M k w r p = true → ∀ q : Int, p ≤ q → q < p + r → m_loses M k q < w := by
  intro r
  induction r with
  | zero => intro p _ q q0 q1; omega
  | succ r ih =>
    intro p h q q0 q1
    have h' : (if w ≤ m_loses M k p ∨ m_behind M k p < M 26 (24 * k + p) + w ∨ m_isF M (M 20 k) (M 26 (24 * k + p)) w = true then false else canB M k w r (p + 1)) = true := h
    by_cases c : w ≤ m_loses M k p ∨ m_behind M k p < M 26 (24 * k + p) + w ∨ m_isF M (M 20 k) (M 26 (24 * k + p)) w = true
    · rw [if_pos c] at h'; exact absurd h' (by decide)
    · rw [if_neg c] at h'
      by_cases e : q = p
      · subst e
        by_cases z : w ≤ m_loses M k q
        · exact absurd (Or.inl z) c
        · omega
      · exact ih (p + 1) h' q (by omega) (by omega)
theorem canB_k {W : gW} {P : Nat → Int → Nat} {A M : Nat → Int → Int} {k w : Int} (h : RKi W P A M k) (hl : 0 ≤ M 20 k) (hb : RBo W P A M (M 20 k)) : ∀ (r : Nat) (p : Int), 0 ≤ p → p + r = M 15 k → k_canB A (qK k) (qB (M 20 k)) w r p = canB M k w r p := by
  obtain ⟨hO, hB, ⟨n0, n1, n2, n3, n4, n5, n6, n7, n8, n9, n12⟩, hU, hL, hN⟩ := h
  obtain ⟨v1, v2, v3, v4, v5, v6, v7, v8, v9⟩ := hL hl
  have ek : ∀ p : Int, 0 ≤ p → p < M 15 k → k_st A (qK k + 1) (A (qK k) 4) p = M 26 (24 * k + p) := fun p p0 p1 => by
    unfold k_st
    rw [if_pos ⟨p0, by omega⟩]
    exact (v9 p p0 p1).1
  have eb : ∀ p : Int, 0 ≤ p → p < M 15 k → k_st A (qK k + 1) (A (qK k) 4) (p + 1) = m_behind M k p := fun p p0 p1 => by
    unfold m_behind
    by_cases c : p + 1 < M 15 k
    · rw [if_pos c, ek (p + 1) (by omega) c]; congr 1; omega
    · rw [if_neg c]
      unfold k_st
      rw [if_neg (by omega)]; exact v5
  intro r
  induction r with
  | zero => intro p _ _; rfl
  | succ r ih =>
    intro p p0 hp
    have i1 := ih (p + 1) (by omega) (by omega)
    have hf := isF_k (x := M 26 (24 * k + p)) (l := w) hb
    show (if w ≤ kls (A (qK k) 4) (A (qK k) 8) p ∨ k_st A (qK k + 1) (A (qK k) 4) (p + 1) < k_st A (qK k + 1) (A (qK k) 4) p + w ∨ k_isF A (qB (M 20 k)) (k_st A (qK k + 1) (A (qK k) 4) p) w then false else k_canB A (qK k) (qB (M 20 k)) w r (p + 1)) = (if w ≤ m_loses M k p ∨ m_behind M k p < M 26 (24 * k + p) + w ∨ m_isF M (M 20 k) (M 26 (24 * k + p)) w = true then false else canB M k w r (p + 1))
    have key : (w ≤ kls (A (qK k) 4) (A (qK k) 8) p ∨ k_st A (qK k + 1) (A (qK k) 4) (p + 1) < k_st A (qK k + 1) (A (qK k) 4) p + w ∨ k_isF A (qB (M 20 k)) (k_st A (qK k + 1) (A (qK k) 4) p) w) ↔ (w ≤ m_loses M k p ∨ m_behind M k p < M 26 (24 * k + p) + w ∨ m_isF M (M 20 k) (M 26 (24 * k + p)) w = true) := by
      rw [kls_m n4 n8, eb p p0 (by omega), ek p p0 (by omega), hf]
    by_cases c : w ≤ m_loses M k p ∨ m_behind M k p < M 26 (24 * k + p) + w ∨ m_isF M (M 20 k) (M 26 (24 * k + p)) w = true
    · rw [if_pos c, if_pos (key.mpr c)]
    · rw [if_neg c, if_neg (fun z => c (key.mp z)), i1]
theorem V96_0 {d : Nat} (hd : 3 ≤ d) {Q : Option Value → xM → Prop} {W : gW} (hW : HW W) {A : Nat → Int → Int} {P : Nat → Int → Nat} (hR : RG A) (hT : Stat W P) (hG : GL W) {x1 x2 : Int} (rr : Rg x1 ∧ Rg x2) (h : (CtO P A) ∧ (((¬ (0 ≤ x1 ∧ x1 < A 0 12)) → Q (some (.int (iz (-2)))) (Wm W A P)) ∧ (¬ (¬ (0 ≤ x1 ∧ x1 < A 0 12)) → (((x2 < (-20)) → Q (some (.int (iz (-2)))) (Wm W A P)) ∧ (¬ (x2 < (-20)) → (((x2 ≤ 20) → (gK W (qK x1) = 3) ∧ (((P (qK x1) 11 = 0) → Q (some (.int (iz (-3)))) (Wm W A P)) ∧ (¬ (P (qK x1) 11 = 0) → (Rg ((A (qK x1) 13) + x2)) ∧ (OKi W P A (qK x1)) ∧ (StB A (qK x1)) ∧ (¬ P (qK x1) 11 = 0 → OBt W P A (P (qK x1) 11 - 1)) ∧ ((¬ (¬ P (qK x1) 11 = 0 ∧ (1 ≤ ((A (qK x1) 13) + x2) ∧ ((A (qK x1) 13) + x2) ≤ 999) ∧ k_canB A (qK x1) (P (qK x1) 11 - 1) ((A (qK x1) 13) + x2) (A (qK x1) 4).toNat 0 = true) → Q (some (.int (iz (-3)))) (Wm W A P)) ∧ ((¬ P (qK x1) 11 = 0 ∧ (1 ≤ ((A (qK x1) 13) + x2) ∧ ((A (qK x1) 13) + x2) ≤ 999) ∧ k_canB A (qK x1) (P (qK x1) 11 - 1) ((A (qK x1) 13) + x2) (A (qK x1) 4).toNat 0 = true) → Q (some (.int (iz ((A (qK x1) 13) + x2)))) (Wm W (UA A (qK x1) 13 ((A (qK x1) 13) + x2)) P)))))) ∧ (¬ (x2 ≤ 20) → Q (some (.int (iz (-2)))) (Wm W A P)))))))) : wpE (xT 96) (xev xT d) Q (0, [(0, .ref (lo W 0)), (1, .int (iz x1)), (2, .int (iz x2))], [], Wm W A P) := by
  refine p_ald (cc3 c96_0) rfl ?_
  refine p_ild (cc3 c96_1) rfl ?_
  obtain ⟨g1, h⟩ := h
  have he := S66 (Nat.le_trans (by decide) hd) hW hR hT hG rr.1 g1
  refine nul_c (c := ¬ (0 ≤ x1 ∧ x1 < A 0 12)) he (fun c he => ?_) (fun c he => ?_) <;> refine p_callV (cc3 c96_2) (Nat.le_of_ble_eq_true rfl) rfl rfl (Nat.le_of_ble_eq_true rfl) (wk_kd hW (by decide) (st_k hT 0 12 (by decide))) he ?_
  · have h := h.1 c
    refine p_astN (ls' := [(3, .null), (0, .ref (lo W 0)), (1, .int (iz x1)), (2, .int (iz x2))]) (cc3 c96_5) (by decide) rfl ?_
    refine p_aldN (cc3 c96_6) rfl ?_
    refine p_ifnN (cc3 c96_7) ?_
    refine p_lc (ls' := []) c96_22 rfl rfl ?_
    refine i_push (n := (-2)) (cct c96_22 rfl) zl_m2 ?_
    exact p_ri (cc3 c96_24) trivial h
  · have h := h.2 c
    refine p_ast (ls' := [(3, .ref (lo W (qK x1))), (0, .ref (lo W 0)), (1, .int (iz x1)), (2, .int (iz x2))]) (cc3 c96_5) (by decide) rfl ?_
    refine p_ald (cc3 c96_6) rfl ?_
    refine p_ifnR (cc3 c96_7) ?_
    refine p_ild (cc3 c96_10) rfl ?_
    refine i_push (n := (-20)) (cc3 c96_11) zl_m20 ?_
    refine i_icmp (c' := x2 < (-20)) (cc3 c96_13) (iz_lt rr.2 (by decide : Rg (-20 : Int))) (fun c => ?_) (fun c => ?_)
    · have h := h.1 c
      refine p_lc (ls' := []) c96_22 rfl rfl ?_
      refine i_push (n := (-2)) (cct c96_22 rfl) zl_m2 ?_
      exact p_ri (cc3 c96_24) trivial h
    · have h := h.2 c
      refine p_ild (cc3 c96_16) rfl ?_
      refine i_push (n := 20) (cc3 c96_17) zl_20 ?_
      refine i_icmp (c' := x2 ≤ 20) (cc3 c96_19) (iz_le rr.2 (by decide : Rg (20 : Int))) (fun c => ?_) (fun c => ?_)
      · have h := h.1 c
        refine p_ald (cc3 c96_25) rfl ?_
        obtain ⟨g2, h⟩ := h
        refine w_getz hW hT.1 (cc3 c96_26) g2 (ji := 11) rfl ?_ ?_
        · intro cz3
          have h := h.1 cz3
          refine p_ifnN (cc3 c96_29) ?_
          refine p_lc (ls' := []) c96_45 rfl rfl ?_
          refine i_push (n := (-3)) (cct c96_45 rfl) zl_m3 ?_
          exact p_ri (cc3 c96_47) trivial h
        · intro cz3
          have h := h.2 cz3
          refine p_ifnR (cc3 c96_29) ?_
          refine p_ald (cc3 c96_32) rfl ?_
          refine p_ald (cc3 c96_33) rfl ?_
          refine w_geti hW (v := A (qK x1) 13) (cc3 c96_34) g2 (ji := 13) rfl rfl ?_
          refine p_ild (cc3 c96_37) rfl ?_
          obtain ⟨g4, h⟩ := h
          refine (fun _ : Rg ((A (qK x1) 13) + x2) => i_add (cc3 c96_38) ?_) g4
          obtain ⟨g5, h⟩ := h
          obtain ⟨g6, h⟩ := h
          obtain ⟨g7, h⟩ := h
          refine p_callV (cc3 c96_39) (Nat.le_of_ble_eq_true rfl) rfl rfl (Nat.le_of_ble_eq_true rfl) (wk_kd hW (by decide) g2) (S97 (Nat.le_trans (by decide) hd) hW hR hT hG g4 ⟨g5, g6, g7⟩) ?_
          refine i_ifB (cc3 c96_42) (fun c => ?_) (fun c => ?_)
          · have h := h.1 c
            refine p_lc (ls' := []) c96_45 rfl rfl ?_
            refine i_push (n := (-3)) (cct c96_45 rfl) zl_m3 ?_
            exact p_ri (cc3 c96_47) trivial h
          · have h := h.2 c
            refine p_ald (cc3 c96_48) rfl ?_
            refine p_dup (cc3 c96_49) rfl ?_
            refine w_geti hW (v := A (qK x1) 13) (cc3 c96_50) g2 (ji := 13) rfl rfl ?_
            refine p_ild (cc3 c96_53) rfl ?_
            refine (fun _ : Rg ((A (qK x1) 13) + x2) => i_add (cc3 c96_54) ?_) g4
            refine id (α := Rg ((A (qK x1) 13) + x2) → _) (fun _ => ?_) g4; refine w_puti hW (cc3 c96_55) g2 (ji := 13) rfl ?_
            refine p_ald (cc3 c96_58) rfl ?_
            refine w_geti hW (v := (A (qK x1) 13) + x2) (cc3 c96_59) g2 (ji := 13) rfl (by first | rfl | exact UA_eq | exact UA_j (by decide) | exact UA_c (by decide) | simp [UA]) ?_
            exact p_ri (cc3 c96_62) trivial h
      · have h := h.2 c
        refine p_lc (ls' := []) c96_22 rfl rfl ?_
        refine i_push (n := (-2)) (cct c96_22 rfl) zl_m2 ?_
        exact p_ri (cc3 c96_24) trivial h
theorem S96 {d : Nat} (hd : 4 ≤ d) {W : gW} (hW : HW W) {A : Nat → Int → Int} {P : Nat → Int → Nat} (hR : RG A) (hT : Stat W P) (hG : GL W) {x1 x2 : Int} (rr : Rg x1 ∧ Rg x2) (hp : (RelA W P A)) : xev xT d 96 [.ref (lo W 0), .int (iz x1), .int (iz x2)] (Wm W A P) (some (.int (iz (m_let_r (mo A) x1 x2)))) (Wm W (if ((0 ≤ x1 ∧ x1 ≤ mo A 0 13 - 1) ∧ (-20 ≤ x2 ∧ x2 ≤ 20)) ∧ 0 ≤ mo A 20 x1 ∧ m_canBe (mo A) x1 (mo A 25 x1 + x2) then UA A (qK x1) 13 (mo A 25 x1 + x2) else A) P) := by
  refine xev_i (D := 3) hd (Nat.le_of_ble_eq_true rfl) (fun d hd => V96_0 hd hW hR hT hG rr ?_)

  have eN : ¬ ((0 ≤ x1 ∧ x1 ≤ mo A 0 13 - 1) ∧ (-20 ≤ x2 ∧ x2 ≤ 20)) → m_let_r (mo A) x1 x2 = -2 ∧ (if ((0 ≤ x1 ∧ x1 ≤ mo A 0 13 - 1) ∧ (-20 ≤ x2 ∧ x2 ≤ 20)) ∧ 0 ≤ mo A 20 x1 ∧ m_canBe (mo A) x1 (mo A 25 x1 + x2) then UA A (qK x1) 13 (mo A 25 x1 + x2) else A) = A := fun z => ⟨if_neg z, if_neg (fun w => z w.1)⟩
  have eY : ((0 ≤ x1 ∧ x1 ≤ mo A 0 13 - 1) ∧ (-20 ≤ x2 ∧ x2 ≤ 20)) → ¬ (0 ≤ mo A 20 x1 ∧ m_canBe (mo A) x1 (mo A 25 x1 + x2)) → m_let_r (mo A) x1 x2 = -3 ∧ (if ((0 ≤ x1 ∧ x1 ≤ mo A 0 13 - 1) ∧ (-20 ≤ x2 ∧ x2 ≤ 20)) ∧ 0 ≤ mo A 20 x1 ∧ m_canBe (mo A) x1 (mo A 25 x1 + x2) then UA A (qK x1) 13 (mo A 25 x1 + x2) else A) = A := fun z q => ⟨by unfold m_let_r; rw [if_pos z, if_neg q], if_neg (fun w => q w.2)⟩
  have eZ : ((0 ≤ x1 ∧ x1 ≤ mo A 0 13 - 1) ∧ (-20 ≤ x2 ∧ x2 ≤ 20)) → (0 ≤ mo A 20 x1 ∧ m_canBe (mo A) x1 (mo A 25 x1 + x2)) → m_let_r (mo A) x1 x2 = mo A 25 x1 + x2 ∧ (if ((0 ≤ x1 ∧ x1 ≤ mo A 0 13 - 1) ∧ (-20 ≤ x2 ∧ x2 ≤ 20)) ∧ 0 ≤ mo A 20 x1 ∧ m_canBe (mo A) x1 (mo A 25 x1 + x2) then UA A (qK x1) 13 (mo A 25 x1 + x2) else A) = UA A (qK x1) 13 (mo A 25 x1 + x2) := fun z q => ⟨by unfold m_let_r; rw [if_pos z, if_pos q], if_pos ⟨z, q⟩⟩

  have hct := hp.cto
  obtain ⟨hn1, hn2, hn3, hn4, hn5, hn6⟩ := hp.cn
  have hcs := hct.1
  by_cases q : 0 ≤ x1 ∧ x1 < A 0 12
  · obtain ⟨hO, hB, ⟨n0, n1, n2, n3, n4, n5, n6, n7, n8, n9, n12⟩, hU, hL, hN⟩ := hp.ki q.1 (by omega)
    have k3 := hO.1
    have k10 := hO.2.1
    have hOL := hO.2.2.1
    have k5 := hO.2.2.1.1.1
    have ho4 := hO.2.2.2.1
    have ho8 := hO.2.2.2.2.1
    have ho := hO.2.2.2.2.2.2
    by_cases hl : mo A 20 x1 < 0
    · obtain ⟨u1, u2, u3, u4⟩ := hU hl
      refine ⟨hct, fun z => absurd q z, fun _ => ⟨fun z => ?_, fun z2 => ⟨fun z3 => ⟨k3, fun z4 => ?_, fun z4 => absurd u1 z4⟩, fun z3 => ?_⟩⟩⟩
      · rw [(eN (by omega)).1, (eN (by omega)).2]; exact ⟨rfl, rfl⟩
      · rw [(eY (by omega) (fun w => by omega)).1, (eY (by omega) (fun w => by omega)).2]; exact ⟨rfl, rfl⟩
      · rw [(eN (by omega)).1, (eN (by omega)).2]; exact ⟨rfl, rfl⟩
    · obtain ⟨v1, v2, v3, v4, v5, v6, v7, v8, v9⟩ := hL (by omega)
      have hla := (hp.ok.2.2.1.2 x1 q.1 (by omega)).2 (by omega)
      have hbo := hp.bo (b := mo A 20 x1) (by omega) hla.1
      have ep1 : P (qK x1) 11 - 1 = qB (mo A 20 x1) := by rw [v1, Nat.add_sub_cancel]
      have ec : ∀ w, k_canB A (qK x1) (qB (mo A 20 x1)) w (A (qK x1) 4).toNat 0 = canB (mo A) x1 w (mo A 15 x1).toNat 0 := fun w => by rw [n4]; exact canB_k (hp.ki q.1 (by omega)) (by omega) hbo _ 0 (Int.le_refl 0) (by omega)
      rw [ep1, v2]
      refine ⟨hct, fun z => absurd q z, fun _ => ⟨fun z => ?_, fun z2 => ⟨fun z3 => ⟨k3, fun z4 => absurd z4 (by omega), fun z4 => ⟨⟨by omega, by omega⟩, hO, hB, fun _ => hbo.1, fun z5 => ?_, fun z5 => ?_⟩⟩, fun z3 => ?_⟩⟩⟩
      · rw [(eN (by omega)).1, (eN (by omega)).2]; exact ⟨rfl, rfl⟩
      · rw [ec] at z5
        have w1 : ¬ (0 ≤ mo A 20 x1 ∧ m_canBe (mo A) x1 (mo A 25 x1 + x2)) := fun w => z5 ⟨z4, w.2.1, w.2.2⟩
        rw [(eY (by omega) w1).1, (eY (by omega) w1).2]; exact ⟨rfl, rfl⟩
      · rw [ec] at z5
        have w1 : (0 ≤ mo A 20 x1 ∧ m_canBe (mo A) x1 (mo A 25 x1 + x2)) := ⟨by omega, z5.2.1, z5.2.2⟩
        rw [(eZ (by omega) w1).1, (eZ (by omega) w1).2]; exact ⟨rfl, rfl⟩
      · rw [(eN (by omega)).1, (eN (by omega)).2]; exact ⟨rfl, rfl⟩
  · refine ⟨hct, fun z => ?_, fun z => absurd (Classical.not_not.mp z) q⟩
    rw [(eN (by omega)).1, (eN (by omega)).2]; exact ⟨rfl, rfl⟩
theorem V98_0 {d : Nat} (hd : 1 ≤ d) {Q : Option Value → xM → Prop} {W : gW} (hW : HW W) {A : Nat → Int → Int} {P : Nat → Int → Nat} (hR : RG A) (hT : Stat W P) (hG : GL W) {x1 : Int} (rr : Rg x1) (h : (CtO P A) ∧ (((¬ (0 ≤ x1 ∧ x1 < A 0 12)) → Q (some (.int (iz (-2)))) (Wm W A P)) ∧ (¬ (¬ (0 ≤ x1 ∧ x1 < A 0 12)) → (gK W (qK x1) = 3) ∧ (((P (qK x1) 11 = 0) → Q (some (.int (iz (-3)))) (Wm W A P)) ∧ (¬ (P (qK x1) 11 = 0) → ((((A (qK x1) 14) = 0) → Q (some (.int (iz 1))) (Wm W (UA A (qK x1) 14 1) P)) ∧ (¬ ((A (qK x1) 14) = 0) → Q (some (.int (iz 0))) (Wm W (UA A (qK x1) 14 0) P)))))))) : wpE (xT 98) (xev xT d) Q (0, [(0, .ref (lo W 0)), (1, .int (iz x1))], [], Wm W A P) := by
  refine p_ald (cc3 c98_0) rfl ?_
  refine p_ild (cc3 c98_1) rfl ?_
  obtain ⟨g1, h⟩ := h
  have he := S66 (Nat.le_trans (by decide) hd) hW hR hT hG rr g1
  refine nul_c (c := ¬ (0 ≤ x1 ∧ x1 < A 0 12)) he (fun c he => ?_) (fun c he => ?_) <;> refine p_callV (cc3 c98_2) (Nat.le_of_ble_eq_true rfl) rfl rfl (Nat.le_of_ble_eq_true rfl) (wk_kd hW (by decide) (st_k hT 0 12 (by decide))) he ?_
  · have h := h.1 c
    refine p_astN (ls' := [(2, .null), (0, .ref (lo W 0)), (1, .int (iz x1))]) (cc3 c98_5) (by decide) rfl ?_
    refine p_aldN (cc3 c98_6) rfl ?_
    refine p_ifnN (cc3 c98_7) ?_
    refine i_push (n := (-2)) (cc3 c98_10) zl_m2 ?_
    exact p_ri (cc3 c98_12) trivial h
  · have h := h.2 c
    refine p_ast (ls' := [(2, .ref (lo W (qK x1))), (0, .ref (lo W 0)), (1, .int (iz x1))]) (cc3 c98_5) (by decide) rfl ?_
    refine p_ald (cc3 c98_6) rfl ?_
    refine p_ifnR (cc3 c98_7) ?_
    refine p_ald (cc3 c98_13) rfl ?_
    obtain ⟨g2, h⟩ := h
    refine w_getz hW hT.1 (cc3 c98_14) g2 (ji := 11) rfl ?_ ?_
    · intro cz3
      have h := h.1 cz3
      refine p_ifnN (cc3 c98_17) ?_
      refine i_push (n := (-3)) (cc3 c98_20) zl_m3 ?_
      exact p_ri (cc3 c98_22) trivial h
    · intro cz3
      have h := h.2 cz3
      refine p_ifnR (cc3 c98_17) ?_
      refine p_ald (cc3 c98_23) rfl ?_
      refine p_ald (cc3 c98_24) rfl ?_
      refine w_geti hW (v := A (qK x1) 14) (cc3 c98_25) g2 (ji := 14) rfl rfl ?_
      refine i_if (c' := (A (qK x1) 14) = 0) (cc3 c98_28) (c_eq0 (hR (qK x1) 14)) (fun c => ?_) (fun c => ?_)
      · have h := h.1 c
        refine i_push (n := 1) (cc3 c98_31) zl_1 ?_
        refine p_goto (cc3 c98_32) ?_
        refine p_lc (ls' := [(2, .ref (lo W (qK x1)))]) c98_36 rfl rfl ?_
        refine id (α := Rg 1 → _) (fun _ => ?_) (by decide : Rg (1 : Int)); refine w_putb hW (cct c98_36 rfl) g2 (ji := 14) rfl (by decide) ?_
        refine p_ald (cc3 c98_39) rfl ?_
        refine w_geti hW (v := 1) (cc3 c98_40) g2 (ji := 14) rfl (by first | rfl | exact UA_eq | exact UA_j (by decide) | exact UA_c (by decide) | simp [UA]) ?_
        refine i_if (c' := (1 : Int) = 0) (cc3 c98_43) (c_eq0 (by decide : Rg (1 : Int))) (fun c => ?_) (fun c => ?_)
        · exact absurd c (by decide)
        · skip
          refine i_push (n := 1) (cc3 c98_46) zl_1 ?_
          refine p_goto (cc3 c98_47) ?_
          refine p_lc (ls' := []) c98_51 rfl rfl ?_
          exact p_ri (cct c98_51 rfl) trivial h
      · have h := h.2 c
        refine i_push (n := 0) (cc3 c98_35) zl_0 ?_
        refine p_lc (ls' := [(2, .ref (lo W (qK x1)))]) c98_36 rfl rfl ?_
        refine id (α := Rg 0 → _) (fun _ => ?_) (by decide : Rg (0 : Int)); refine w_putb hW (cct c98_36 rfl) g2 (ji := 14) rfl (by decide) ?_
        refine p_ald (cc3 c98_39) rfl ?_
        refine w_geti hW (v := 0) (cc3 c98_40) g2 (ji := 14) rfl (by first | rfl | exact UA_eq | exact UA_j (by decide) | exact UA_c (by decide) | simp [UA]) ?_
        refine i_if (c' := (0 : Int) = 0) (cc3 c98_43) (c_eq0 (by decide : Rg (0 : Int))) (fun c => ?_) (fun c => ?_)
        · skip
          refine i_push (n := 0) (cc3 c98_50) zl_0 ?_
          refine p_lc (ls' := []) c98_51 rfl rfl ?_
          exact p_ri (cct c98_51 rfl) trivial h
        · exact absurd (by decide) c
theorem S98 {d : Nat} (hd : 2 ≤ d) {W : gW} (hW : HW W) {A : Nat → Int → Int} {P : Nat → Int → Nat} (hR : RG A) (hT : Stat W P) (hG : GL W) {x1 : Int} (rr : Rg x1) (hp : (RelA W P A)) : xev xT d 98 [.ref (lo W 0), .int (iz x1)] (Wm W A P) (some (.int (iz (m_turn_r (mo A) x1)))) (Wm W (if (0 ≤ x1 ∧ x1 ≤ mo A 0 13 - 1) ∧ ¬ mo A 20 x1 < 0 then UA A (qK x1) 14 (if mo A 28 x1 = 0 then 1 else 0) else A) P) := by
  refine xev_i (D := 1) hd (Nat.le_of_ble_eq_true rfl) (fun d hd => V98_0 hd hW hR hT hG rr ?_)

  have hct := hp.cto
  obtain ⟨hn1, hn2, hn3, hn4, hn5, hn6⟩ := hp.cn
  have hcs := hct.1
  by_cases q : 0 ≤ x1 ∧ x1 < A 0 12
  · obtain ⟨hO, hB, ⟨n0, n1, n2, n3, n4, n5, n6, n7, n8, n9, n12⟩, hU, hL, hN⟩ := hp.ki q.1 (by omega)
    have k3 := hO.1
    have k10 := hO.2.1
    have hOL := hO.2.2.1
    have k5 := hO.2.2.1.1.1
    have ho4 := hO.2.2.2.1
    have ho8 := hO.2.2.2.2.1
    have ho := hO.2.2.2.2.2.2
    by_cases hl : mo A 20 x1 < 0
    · obtain ⟨u1, u2, u3, u4⟩ := hU hl
      refine ⟨hct, fun z => absurd q z, fun _ => ⟨k3, fun z4 => ?_, fun z4 => absurd u1 z4⟩⟩
      unfold m_turn_r
      rw [if_pos (show 0 ≤ x1 ∧ x1 ≤ mo A 0 13 - 1 by omega), if_pos hl, if_neg (fun w => w.2 hl)]; exact ⟨rfl, rfl⟩
    · obtain ⟨v1, v2, v3, v4, v5, v6, v7, v8, v9⟩ := hL (by omega)
      refine ⟨hct, fun z => absurd q z, fun _ => ⟨k3, fun z4 => absurd z4 (by omega), fun z4 => ⟨fun z5 => ?_, fun z5 => ?_⟩⟩⟩
      · unfold m_turn_r
        rw [if_pos (show 0 ≤ x1 ∧ x1 ≤ mo A 0 13 - 1 by omega), if_neg hl, if_pos (show mo A 28 x1 = 0 by omega), if_pos ⟨by omega, hl⟩]; exact ⟨rfl, rfl⟩
      · unfold m_turn_r
        rw [if_pos (show 0 ≤ x1 ∧ x1 ≤ mo A 0 13 - 1 by omega), if_neg hl, if_neg (show ¬ mo A 28 x1 = 0 by omega), if_pos ⟨by omega, hl⟩]; exact ⟨rfl, rfl⟩
  · refine ⟨hct, fun z => ?_, fun z => absurd (Classical.not_not.mp z) q⟩
    unfold m_turn_r
    rw [if_neg (show ¬ (0 ≤ x1 ∧ x1 ≤ mo A 0 13 - 1) by omega), if_neg (fun w => q (by omega))]; exact ⟨rfl, rfl⟩
theorem cl_15 {W : gW} {P : Nat → Int → Nat} {A : Nat → Int → Int} (h : Sta W P A) {x1 x2 : Int} (rr : Rg x1 ∧ Rg x2) : Cll 96 167 [.int (iz x1), .int (iz x2)] W P A := by
  have hr := h.2.2.2.2
  have hx := S96 (d := 190) (by decide) h.1 h.2.1 h.2.2.1 h.2.2.2.1 rr hr
  have hm := fun B => S167 (d := 190) (by decide) (h.ml2 h.2.2.1.1 hr.mod B) (rg_mo h.2.1) rr ⟨hr.ok.2.1, hr.ok.2.2.1⟩
  by_cases q : ((0 ≤ x1 ∧ x1 ≤ mo A 0 13 - 1) ∧ (-20 ≤ x2 ∧ x2 ≤ 20)) ∧ 0 ≤ mo A 20 x1 ∧ m_canBe (mo A) x1 (mo A 25 x1 + x2)
  · have e : m_let_n (mo A) x1 x2 = UA (mo A) 25 x1 (mo A 25 x1 + x2) := if_pos q
    rw [if_pos q] at hx
    have hm := hm (UA A (qK x1) 13 (mo A 25 x1 + x2))
    rw [e] at hm
    have qk := qK_d (s := x1)
    have k8 := hr.ok.2.2.1.1
    have hv := q.2.2.1
    have q1 := q.1.1
    refine stp_m3 h hx (fun c hc => UA_n (by omega)) hm (rg_UA h.2.1 ⟨by omega, by omega⟩) (rg_UA (rg_mo h.2.1) ⟨by omega, by omega⟩) (hr.let_ q1.1 (by omega) q.2.1 hv (fun p p0 p1 => canB_los _ 0 q.2.2.2 p p0 (by omega)))
  · rw [if_neg q] at hx
    have e : m_let_n (mo A) x1 x2 = mo A := if_neg q
    have hm := hm A
    rw [e] at hm
    exact stp_ro h hx hm
theorem cl_16 {W : gW} {P : Nat → Int → Nat} {A : Nat → Int → Int} (h : Sta W P A) {x1 : Int} (rr : Rg x1) : Cll 98 169 [.int (iz x1)] W P A := by
  have hr := h.2.2.2.2
  have hx := S98 (d := 190) (by decide) h.1 h.2.1 h.2.2.1 h.2.2.2.1 rr hr
  have hm := fun B => S169 (d := 190) (by decide) (h.ml2 h.2.2.1.1 hr.mod B) (rg_mo h.2.1) rr hr.ok.2.2.1.1
  by_cases q : (0 ≤ x1 ∧ x1 ≤ mo A 0 13 - 1) ∧ ¬ mo A 20 x1 < 0
  · have e : m_turn_n (mo A) x1 = UA (mo A) 28 x1 (if mo A 28 x1 = 0 then 1 else 0) := if_pos q
    rw [if_pos q] at hx
    have hm := hm (UA A (qK x1) 14 (if mo A 28 x1 = 0 then 1 else 0))
    rw [e] at hm
    have qk := qK_d (s := x1)
    have k8 := hr.ok.2.2.1.1
    have hv : (if mo A 28 x1 = 0 then (1 : Int) else 0) = 0 ∨ (if mo A 28 x1 = 0 then (1 : Int) else 0) = 1 := by split <;> omega
    generalize (if mo A 28 x1 = 0 then (1 : Int) else 0) = v at *
    have rv : Rg v := ⟨by omega, by omega⟩
    have q1 := q.1
    exact stp_m3 h hx (fun c hc => UA_n (by omega)) hm (rg_UA h.2.1 rv) (rg_UA (rg_mo h.2.1) rv) (hr.trn q1.1 (by omega) (by omega) hv)
  · rw [if_neg q] at hx
    have e : m_turn_n (mo A) x1 = mo A := if_neg q
    have hm := hm A
    rw [e] at hm
    exact stp_ro h hx hm
