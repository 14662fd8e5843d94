section GEN2
variable {W : gW} {P P' : Nat → Int → Nat} {A A' M M' : Nat → Int → Int}
theorem Rel.gen2 (h : Rel W P A M) (eP : ∀ c, ¬ c = 6 → ¬ c = 8 → ¬ (300 ≤ c ∧ c < 400) → P' c = P c) (eA : ∀ c, 100 ≤ c → c < 531 → ¬ (200 ≤ c ∧ c < 240) → ¬ (300 ≤ c ∧ c < 500) → A' c = A c) (eS : ∀ s : Int, 0 ≤ s → s < 4 → eqS M M' s) (e0 : M' 0 2 = M 0 2 ∧ M' 0 42 = M 0 42 ∧ M' 0 8 = M 0 8 ∧ M' 0 13 = M 0 13) (c1 : A' 0 10 = A 0 10 ∧ A' 0 11 = A 0 11 ∧ A' 0 12 = A 0 12) (c2 : RCn A' M') (c3 : TpR A' (M' 1))
    (cB : ∀ b : Int, 0 ≤ b → b < M 0 8 → RBo W P' A' M' b) (cK : ∀ k : Int, 0 ≤ k → k < M 0 13 → RKi W P' A' M' k) (cT : ∀ t : Int, 0 ≤ t → t < M 0 42 → RTx W P' A' M' t) (cH : ∀ s : Int, 0 ≤ s → s < 4 → RSh W P' A' M' s) (cC : ∀ j : Nat, j < 8 → A' 14 j = M' 41 j) (oB : BoltsOK M') (oK : KiltsOK M') (oH : SheetsOK M') (oR : 0 ≤ M' 0 43 ∧ M' 0 43 < M' 0 42) : Rel W P' A' M' := by
  obtain ⟨oS0, oB0, oK0, oH0, oT0, oR0⟩ := h.ok
  have b2 := oS0.1
  obtain ⟨e2, e42, e8, e13⟩ := e0
  refine ⟨h.cto.same c1 ⟨eP _ (by decide) (by decide) (by decide), eP _ (by decide) (by decide) (by decide), eP _ (by decide) (by decide) (by decide), eP _ (by decide) (by decide) (by decide)⟩, c2, c3, fun s s0 s1 => ?_, fun b b0 b1 => cB b b0 (by omega), ?_, fun k k0 k1 => cK k k0 (by omega), fun t t0 t1 => cT t t0 (by omega), cH, cC, ?_, ?_, ?_, ⟨oS0.sm eS e2, oB, oK, oH, by rw [e42]; exact oT0, oR⟩⟩
  · refine (h.se s0 (by omega)).same (fun c q1 q2 => ?_) (eS s s0 (by omega))
    rw [qS_d] at q1 q2
    exact ⟨rfl, rfl, eP c (by omega) (by omega) (by omega), eA c (by omega) (by omega) (by omega) (by omega)⟩
  · refine h.wb.same (fun c q1 q2 => ⟨rfl, rfl, eP c (by omega) (by omega) (by omega), eA c (by omega) (by omega) (by omega) (by omega)⟩) ?_ e2
    rw [eP 0 (by decide) (by decide) (by decide)]
  · have := h.fr
    unfold RFr at this ⊢
    rw [e2, e42, e8, e13]
    exact this
  · exact h.st.same (fun c q1 q2 => eA c (by omega) (by omega) (by omega) (by omega))
  · have := h.mod
    unfold RMo at this ⊢
    rw [eP 1000 (by decide) (by decide) (by decide)]
    exact this
theorem RTx.weak {t : Int} (h : RTx W P A M t) (e2 : A' (qT t) 2 = A (qT t) 2) (e1 : A' (qT t + 1) = A (qT t + 1)) (e : eqT M M' t) : RTx W P A' M' t := by
  obtain ⟨h1, h2, h3, h4, h5⟩ := h
  refine ⟨h1, h2, by rw [e2]; exact h3, h4, fun q q0 q1 => ?_⟩
  obtain ⟨f1, f2, f3, f4, f5⟩ := h5 q q0 q1
  obtain ⟨z1, z2⟩ := e q q0 q1
  have p1 : partK A' W (qT t) q = partK A W (qT t) q := by unfold partK; rw [e1, e2]
  have p2 : rowL M' (2 * t + q) = rowL M (2 * t + q) := by
    unfold rowL
    rw [z1]
    exact upL_eq _ _ (fun i q1 q2 => z2 i (by omega) (by omega))
  refine ⟨by rw [p1, p2]; exact f1, by rw [p1]; exact f2, by rw [z1]; exact f3, ?_, ?_⟩
  · rw [p2]; exact f4
  · rw [p2]; exact f5
def SyF (A A' : Nat → Int → Int) (t : Int) : Prop := (∀ c, ¬ c = qT t → ¬ c = qT t + 2 → A' c = A c) ∧ ∀ j : Int, ¬ j = 3 → A' (qT t) j = A (qT t) j
def m_saysv (M : Nat → Int → Int) (x y : Int) : Int64 := if ((0 ≤ x ∧ x ≤ M 0 13 - 1) ∧ 0 ≤ M 20 x) ∧ (0 ≤ y ∧ y ≤ 1) then (iz (evv (m_fct M x) (rowL M (2 * M 0 43 + y)))).toInt64 else -4611686018427387904
theorem fct_k {k : Int} (hn : RKn A M k) (hl : RKl P A M k) : k_fct A (qK k) = m_fct M k := by
  obtain ⟨n0, n1, n2, n3, n4, n5, n6, n7, n8, n9, n12⟩ := hn
  obtain ⟨v1, v2, v3, v4, v5, v6, v7, v8, v9⟩ := hl
  funext j
  unfold k_fct m_fct
  rw [n0, n2, n3, n4, v2, v6]
theorem Rel.says (h : Rel W P A M) {t : Int} (ht : 0 ≤ t ∧ t < M 0 42) (hA : SyF A A' t) (hM : Fr [37, 38] [] M M') : Rel W P A' M' := by
  obtain ⟨oS0, oB0, oK0, oH0, oT0, oR0⟩ := h.ok
  have qt := qT_d (s := t)
  have m : ∀ c, ¬ c = 37 → ¬ c = 38 → M' c = M c := fun c z1 z2 => by
    by_cases e : c = 0
    · subst e; funext j; exact hM.2 j (by simp)
    · exact hM.1 c (by simp; omega) e
  have a : ∀ c, ¬ c = qT t → ¬ c = qT t + 2 → A' c = A c := hA.1
  have eS : ∀ s : Int, eqS M M' s := fun s => eqS_r (fun c hc => by simp at hc; exact m c (by omega) (by omega)) s
  have eB : ∀ s : Int, eqB M M' s := fun s => eqB_r (fun c hc => by simp at hc; exact m c (by omega) (by omega)) s
  have eK : ∀ s : Int, eqK M M' s := fun s => eqK_r (fun c hc => by simp at hc; exact m c (by omega) (by omega)) s
  have eL : ∀ s : Int, eqL M M' s := fun s => eqL_r (fun c hc => by simp at hc; exact m c (by omega) (by omega)) s
  have eT : ∀ s : Int, eqT M M' s := fun s => eqT_r (fun c hc => by simp at hc; exact m c (by omega) (by omega)) s
  have eH : ∀ s : Int, eqH M M' s := fun s => eqH_r (fun c hc => by simp at hc; exact m c (by omega) (by omega)) s
  have m0 : M' 0 = M 0 := m 0 (by decide) (by decide)
  have a0 : A' 0 = A 0 := a 0 (by omega) (by omega)
  refine h.gen2 (fun _ _ _ _ => rfl) (fun c q1 q2 q3 q4 => a c (by omega) (by omega)) (fun s _ _ => eS s) (by rw [m0]; exact ⟨rfl, rfl, rfl, rfl⟩) (by rw [a0]; exact ⟨rfl, rfl, rfl⟩) ?_ ?_ (h.boS (fun _ _ _ => rfl) (fun c _ _ => a c (by omega) (by omega)) (fun b _ _ => eB b)) (h.kiS (fun _ _ _ => rfl) (fun c _ _ => a c (by omega) (by omega)) (fun k _ _ => ⟨eK k, eL k⟩) (by rw [m0]) (eS 0)) (fun i i0 i1 => ?_) (h.shS (fun _ _ _ => rfl) (fun c _ _ => a c (by omega) (by omega)) (fun s _ _ => eH s)) ?_ (oB0.sm (fun b _ _ => eB b) (by rw [m0]) (by rw [m0])) (oK0.sm (fun k _ _ => ⟨eK k, eL k⟩) (by rw [m0]) (by rw [m0])) (oH0.same (m 43 (by decide) (by decide)) (m 44 (by decide) (by decide))) (by rw [m0]; exact oR0)
  · unfold RCn; rw [a0, a 1 (by omega) (by omega), m0]; exact h.cn
  · rw [m 1 (by decide) (by decide)]; exact h.tp.same (a 1 (by omega) (by omega)) (a 2 (by omega) (by omega))
  · have qi := qT_d (s := i)
    refine (h.tx i0 i1).weak ?_ (a _ (by omega) (by omega)) (eT i)
    by_cases e : i = t
    · rw [e]; exact hA.2 2 (by decide)
    · rw [a _ (by omega) (by omega)]
  · rw [a 14 (by omega) (by omega), m 41 (by decide) (by decide)]; exact h.cu
/-- the model's own marks and rows of its search may change -/
theorem Rel.mnf (h : Rel W P A M) (e : ∀ c j, ¬ bfRows c j → M' c j = M c j) (cC : ∀ j : Nat, j < 8 → A 14 j = M' 41 j) : Rel W P A M' := by
  obtain ⟨oS0, oB0, oK0, oH0, oT0, oR0⟩ := h.ok
  have m : ∀ c, ¬ c = 0 → ¬ c = 8 → ¬ c = 9 → ¬ (29 ≤ c ∧ c ≤ 32) → ¬ (39 ≤ c ∧ c ≤ 42) → M' c = M c := fun c z1 z2 z3 z4 z5 => funext fun j => e c j (fun z => by unfold bfRows ndRows at z; omega)
  have m0 : ∀ j : Int, ¬ (j = 32 ∨ j = 36 ∨ j = 39 ∨ j = 40 ∨ j = 41 ∨ j = 62 ∨ j = 63) → M' 0 j = M 0 j := fun j z1 => e 0 j (fun z => by unfold bfRows ndRows at z; omega)
  have m8 : ∀ c j, (c = 8 ∨ c = 9) → ¬ j = 4 → M' c j = M c j := fun c j z1 z2 => e c j (fun z => by unfold bfRows ndRows at z; omega)
  have eS : ∀ s : Int, eqS M M' s := fun s => eqS_r (fun c hc => by simp at hc; exact m c (by omega) (by omega) (by omega) (by omega) (by omega)) s
  have eB : ∀ s : Int, 0 ≤ s → s < 4 → eqB M M' s := fun s s0 s1 => ⟨by rw [m 7 (by decide) (by decide) (by decide) (by decide) (by decide)], m8 8 s (Or.inl rfl) (by omega), m8 9 s (Or.inr rfl) (by omega), fun k _ _ => by rw [m 10 (by decide) (by decide) (by decide) (by decide) (by decide)]⟩
  have eK : ∀ s : Int, eqK M M' s := fun s => eqK_r (fun c hc => by simp at hc; exact m c (by omega) (by omega) (by omega) (by omega) (by omega)) s
  have eL : ∀ s : Int, eqL M M' s := fun s => eqL_r (fun c hc => by simp at hc; exact m c (by omega) (by omega) (by omega) (by omega) (by omega)) s
  have eT : ∀ s : Int, eqT M M' s := fun s => eqT_r (fun c hc => by simp at hc; exact m c (by omega) (by omega) (by omega) (by omega) (by omega)) s
  have eH : ∀ s : Int, eqH M M' s := fun s => eqH_r (fun c hc => by simp at hc; exact m c (by omega) (by omega) (by omega) (by omega) (by omega)) s
  have z1 := m0 1 (by omega)
  have z2 := m0 2 (by omega)
  have z8 := m0 8 (by omega)
  have z13 := m0 13 (by omega)
  have z42 := m0 42 (by omega)
  have z43 := m0 43 (by omega)
  refine h.gen (fun _ _ _ _ => rfl) (fun _ _ _ _ _ => rfl) (fun s _ _ => eS s) (fun t _ _ => eT t) ⟨z2, z42, z8, z13⟩ ⟨rfl, rfl, rfl⟩ ?_ ?_ (h.boS (fun _ _ _ => rfl) (fun _ _ _ => rfl) eB) (h.kiS (fun _ _ _ => rfl) (fun _ _ _ => rfl) (fun k _ _ => ⟨eK k, eL k⟩) z2 (eS 0)) (h.shS (fun _ _ _ => rfl) (fun _ _ _ => rfl) (fun s _ _ => eH s)) cC (oB0.sm eB z8 z2) (oK0.sm (fun k _ _ => ⟨eK k, eL k⟩) z13 z8) (oH0.same (m 43 (by decide) (by decide) (by decide) (by decide) (by decide)) (m 44 (by decide) (by decide) (by decide) (by decide) (by decide))) (by rw [z43, z42]; exact oR0)
  · unfold RCn; rw [z1, z2, z8, z13, z42, z43]; exact h.cn
  · rw [m 1 (by decide) (by decide) (by decide) (by decide) (by decide)]; exact h.tp
theorem LyM.same2 {k b s : Nat} {kk bb ss : Int} (h : LyM A k b s M kk bb ss) (e1 : A' k = A k) (e2 : A' b = A b) (e3 : A' (b + 1) = A (b + 1)) (e4 : A' s = A s) (e5 : A' (s + 3) = A (s + 3)) : LyM A' k b s M kk bb ss := by
  unfold LyM k_isF at h ⊢
  rw [e1, e2, e3, e4, e5]
  exact h
theorem lyT_of {k b s : Nat} (h : LyS A A' k b s) (h1 : 29 ≤ k) (h2 : 29 ≤ s) : LyT A' k s := by
  obtain ⟨hF, e2, e3, e10, -, -⟩ := h
  have ek : A' k = A k := hF.1 k (by simp; omega) (by omega)
  have es : A' s = A s := hF.1 s (by simp; omega) (by omega)
  have e3' : A' (s + 3) = A (s + 3) := hF.1 (s + 3) (by simp; omega) (by omega)
  refine ⟨?_, ?_, fun p hp => ?_⟩
  · rw [e2]; unfold yk0 ykH k_cen; rw [ek, es, e3']
  · rw [e3]; unfold yku ykf ykX yk0 ykH k_cen ykw; simp only [ek, es, e3']
  · rw [ek] at hp
    rw [e10 p hp]; unfold ykf ykX yk0 ykH k_cen ykw; simp only [ek, es, e3']
theorem lyM_need (h : Rel W P A M) {k : Int} (k0 : 0 ≤ k) (k1 : k < M 0 13) (h2 : 0 < M 0 2) (hs : m_hasS M k 0) : LyM A (qK k) 240 100 (Nd M) k 4 0 := by
  obtain ⟨hO, hB, ⟨n0, n1, n2, n3, n4, n5, n6, n7, n8, n9, n12⟩, hU, hL, hN⟩ := h.ki k0 k1
  obtain ⟨w1, w2, w3, w4, w5⟩ := h.wb.2 h2
  have hk := (h.ok.2.2.1.2 k k0 k1).1
  obtain ⟨hS, ⟨e0, e1, e2⟩, hE, hC⟩ := h.se (s := 0) (Int.le_refl 0) h2
  have q : qS 0 = 100 := rfl
  rw [q] at hS e0 e1 hE
  obtain ⟨o1, o2, o3, o4, o5, o6, o7, o8, o9, o10, o11⟩ := hO
  have b1 := hS.2.2.1
  have es : strd (Nd M) k ↔ strd M k := strd_eq (nd_row (by omega))
  have e16 : Nd M 16 k = M 16 k := nd_row (by omega)
  refine ⟨⟨by rw [nd_row (by omega), n0], by rw [nd_row (by omega), n4], by rw [nd_row (by omega), n6], by rw [nd_row (by omega), n7]⟩, by rw [es]; exact n9, ⟨by rw [w3]; rfl, fun x l => ?_⟩, ⟨by rw [nd_row (by omega), e1], by rw [cen_eq eqS_nd (by decide) (by decide), (hE 0 (by decide) (by omega)).2.2], fun z => ?_⟩, o9, o4, o7, o8, b1.2.1, by rw [w3]; decide, b1.1.1⟩
  · rw [isF_nd]
    unfold k_isF
    rw [w4]
    exact ⟨fun z => (nomatch (show false = true from z)), fun z => (nomatch z)⟩
  · have z2 := es.mp z
    have hh : M 16 k < M 2 0 := by
      rcases hs with y | y
      · exact absurd z2 y
      · exact y
    have h16 := hk.2.2.2.2.2.1
    rw [e16, n5]
    exact ⟨by rw [cen_eq eqS_nd h16.1 (by omega), (hE _ h16.1 hh).2.2], h16.1, by rw [e0]; exact hh⟩
/-- a kilt of which nothing but its need has changed -/
theorem RKi.nd {k : Int} (h : RKi W P A M k) (a : ∀ j : Int, ¬ j = 15 → A' (qK k) j = A (qK k) j) (r : ∀ c, qK k < c → c < qK k + 4 → A' c = A c) (p : ∀ c, qK k ≤ c → c < qK k + 4 → P' c = P c) (hN : NdV M k (A' (qK k) 15)) : RKi W P' A' M k := by
  obtain ⟨hO, hB, hn, hU, hL, -⟩ := h
  have r1 := r (qK k + 1) (by omega) (by omega)
  have r2 := r (qK k + 1 + 1) (by omega) (by omega)
  have r3 := r (qK k + 1 + 2) (by omega) (by omega)
  have p0 := p (qK k) (by omega) (by omega)
  have p1 := p (qK k + 1) (by omega) (by omega)
  refine ⟨?_, ?_, ?_, ?_, ?_, hN⟩
  · obtain ⟨o1, o2, o3, o4, o5, o6, o7, o8, o9, o10, o11⟩ := hO
    refine ⟨o1, by rw [p0]; exact o2, ?_, by rw [a 4 (by decide)]; exact o4, by rw [a 8 (by decide)]; exact o5, by rw [a 9 (by decide)]; exact o6, by rw [a 6 (by decide)]; exact o7, by rw [a 7 (by decide)]; exact o8, by rw [a 0 (by decide)]; exact o9, by rw [a 13 (by decide)]; exact o10, by rw [a 14 (by decide)]; exact o11⟩
    rw [a 4 (by decide)]
    unfold OLg at o3 ⊢
    rw [p1]
    exact o3
  · intro j
    have := hB j
    unfold k_st at this ⊢
    rw [a 4 (by decide), r2, r1]
    exact this
  · unfold RKn at hn ⊢
    rw [a 0 (by decide), a 1 (by decide), a 2 (by decide), a 3 (by decide), a 4 (by decide), a 5 (by decide), a 6 (by decide), a 7 (by decide), a 8 (by decide), a 9 (by decide), a 12 (by decide)]
    exact hn
  · intro z
    rw [p0, a 13 (by decide), a 14 (by decide)]; exact hU z
  · intro z
    have := hL z
    unfold RKl at this ⊢
    rw [p0, a 13 (by decide), a 14 (by decide), r1, r2, r3]; exact this
def NdF (A A' : Nat → Int → Int) (x : Int) : Prop := (∀ c, ¬ c = 8 → ¬ c = 9 → ¬ c = 10 → ¬ c = qK x → A' c = A c) ∧ ∀ j : Int, ¬ j = 15 → A' (qK x) j = A (qK x) j
theorem Rel.nd (h : Rel W P A M) {k : Int} (k0 : 0 ≤ k) (k1 : k < M 0 13) (hF : NdF A A' k) (hP : ∀ c : Nat, ¬ c = 8 → P' c = P c) (hN : NdV M k (A' (qK k) 15)) : Rel W P' A' M := by
  obtain ⟨oS0, oB0, oK0, oH0, oT0, oR0⟩ := h.ok
  have k8 := oK0.1
  have qk := qK_d (s := k)
  have a0 : A' 0 = A 0 := hF.1 0 (by decide) (by decide) (by decide) (by omega)
  refine h.gen (fun c _ z _ => hP c z) (fun c q1 q2 q3 q4 => hF.1 c (by omega) (by omega) (by omega) (by omega)) (fun _ _ _ => eqS.rf) (fun _ _ _ => eqT.rf) ⟨rfl, rfl, rfl, rfl⟩ (by rw [a0]; exact ⟨rfl, rfl, rfl⟩) ?_ (h.tp.same (hF.1 1 (by decide) (by decide) (by decide) (by omega)) (hF.1 2 (by decide) (by decide) (by decide) (by omega))) (h.boS (fun c _ _ => hP c (by omega)) (fun c _ _ => hF.1 c (by omega) (by omega) (by omega) (by omega)) (fun _ _ _ => eqB.rf)) (fun i i0 i1 => ?_) (h.shS (fun c _ _ => hP c (by omega)) (fun c _ _ => hF.1 c (by omega) (by omega) (by omega) (by omega)) (fun _ _ _ => eqH.rf)) ?_ oB0 oK0 oH0 oR0
  · unfold RCn; rw [a0, hF.1 1 (by decide) (by decide) (by decide) (by omega)]; exact h.cn
  · have qi := qK_d (s := i)
    by_cases e : i = k
    · subst e
      exact (h.ki i0 i1).nd hF.2 (fun c q1 q2 => hF.1 c (by omega) (by omega) (by omega) (by omega)) (fun c q1 q2 => hP c (by omega)) hN
    · exact (h.ki i0 i1).same (fun c q1 q2 => ⟨rfl, rfl, hP c (by omega), hF.1 c (by omega) (by omega) (by omega) (by omega)⟩) (oK0.2 i i0 i1).1 eqK.rf eqL.rf (fun q => ⟨q, eqS.rf⟩)
  · rw [hF.1 14 (by decide) (by decide) (by decide) (by omega)]; exact h.cu
end GEN2
theorem V101_0 {d : Nat} (hd : 2 ≤ d) {Q : Option Value → xM → Prop} {W : gW} (hW : HW W) {A : Nat → Int → Int} {P : Nat → Int → Nat} (hR : RG A) (hT : Stat W P) (hG : GL W) {x1 x2 : Int} (rr : Rg x1 ∧ Rg x2) (h : (CtO P A) ∧ (((¬ (0 ≤ x1 ∧ x1 < A 0 12)) → Q (some (.long (-4611686018427387904))) (Wm W A P)) ∧ (¬ (¬ (0 ≤ x1 ∧ x1 < A 0 12)) → (gK W (qK x1) = 3) ∧ (((P (qK x1) 11 = 0) → Q (some (.long (-4611686018427387904))) (Wm W A P)) ∧ (¬ (P (qK x1) 11 = 0) → (((x2 < 0) → Q (some (.long (-4611686018427387904))) (Wm W A P)) ∧ (¬ (x2 < 0) → (((x2 ≤ 1) → ((((A 0 14) < 0) → Q (some (.long (-4611686018427387904))) (Wm W A P)) ∧ (¬ ((A 0 14) < 0) → ((((A 0 13) ≤ (A 0 14)) → Q (some (.long (-4611686018427387904))) (Wm W A P)) ∧ (¬ ((A 0 13) ≤ (A 0 14)) → (0 ≤ (A 0 14) ∧ (A 0 14) < 6) ∧ (¬ P 19 (A 0 14) = 0) ∧ (OTx W P (P 19 (A 0 14) - 1)) ∧ (OKi W P A (qK x1)) ∧ (0 ≤ A (P 19 (A 0 14) - 1) 2 ∧ A (P 19 (A 0 14) - 1) 2 ≤ (gL W ((P 19 (A 0 14) - 1) + 1) : Int)) ∧ (gL W ((P 19 (A 0 14) - 1) + 2) = gL W ((P 19 (A 0 14) - 1) + 1)) ∧ (vs (partK A W (P 19 (A 0 14) - 1) x2) 0 = some 1 ∧ ∀ c ∈ partK A W (P 19 (A 0 14) - 1) x2, cdOK c) ∧ (gK W (P 19 (A 0 14) - 1) = 10) ∧ (∀ (r_1 : Int) (A_1 : Nat → Int → Int), Rg r_1 → RG A_1 → (Fo (P 19 (A 0 14) - 1) [(P 19 (A 0 14) - 1) + 2] [3] A A_1 ∧ r_1 = evv (k_fct A (qK x1)) ((partK A W (P 19 (A 0 14) - 1) x2).map cm)) → Q (some (.long ((iz r_1).toInt64))) (Wm W A_1 P))))))) ∧ (¬ (x2 ≤ 1) → Q (some (.long (-4611686018427387904))) (Wm W A P)))))))))) : wpE (xT 101) (xev xT d) Q (0, [(0, .ref (lo W 0)), (1, .int (iz x1)), (2, .int (iz x2))], [], Wm W A P) := by
  refine p_ald (cc3 c101_0) rfl ?_
  refine p_ild (cc3 c101_1) rfl ?_
  obtain ⟨g1, h⟩ := h
  have he := S66 (Nat.le_trans (by decide) hd) hW hR hT hG rr.1 g1
  refine nul_c (c := ¬ (0 ≤ x1 ∧ x1 < A 0 12)) he (fun c he => ?_) (fun c he => ?_) <;> refine p_callV (cc3 c101_2) (Nat.le_of_ble_eq_true rfl) rfl rfl (Nat.le_of_ble_eq_true rfl) (wk_kd hW (by decide) (st_k hT 0 12 (by decide))) he ?_
  · have h := h.1 c
    refine p_astN (ls' := [(3, .null), (0, .ref (lo W 0)), (1, .int (iz x1)), (2, .int (iz x2))]) (cc3 c101_5) (by decide) rfl ?_
    refine p_aldN (cc3 c101_6) rfl ?_
    refine p_ifnN (cc3 c101_7) ?_
    refine p_lc (ls' := []) c101_26 rfl rfl ?_
    refine p_push (cct c101_26 rfl) ?_
    exact p_rl (cc3 c101_29) h
  · have h := h.2 c
    refine p_ast (ls' := [(3, .ref (lo W (qK x1))), (0, .ref (lo W 0)), (1, .int (iz x1)), (2, .int (iz x2))]) (cc3 c101_5) (by decide) rfl ?_
    refine p_ald (cc3 c101_6) rfl ?_
    refine p_ifnR (cc3 c101_7) ?_
    refine p_ald (cc3 c101_10) rfl ?_
    obtain ⟨g2, h⟩ := h
    refine w_getz hW hT.1 (cc3 c101_11) g2 (ji := 11) rfl ?_ ?_
    · intro cz3
      have h := h.1 cz3
      refine p_ifnN (cc3 c101_14) ?_
      refine p_lc (ls' := []) c101_26 rfl rfl ?_
      refine p_push (cct c101_26 rfl) ?_
      exact p_rl (cc3 c101_29) h
    · intro cz3
      have h := h.2 cz3
      refine p_ifnR (cc3 c101_14) ?_
      refine p_ild (cc3 c101_17) rfl ?_
      refine i_if (c' := x2 < 0) (cc3 c101_18) (c_lt0 rr.2) (fun c => ?_) (fun c => ?_)
      · have h := h.1 c
        refine p_lc (ls' := []) c101_26 rfl rfl ?_
        refine p_push (cct c101_26 rfl) ?_
        exact p_rl (cc3 c101_29) h
      · have h := h.2 c
        refine p_ild (cc3 c101_21) rfl ?_
        refine i_push (n := 1) (cc3 c101_22) zl_1 ?_
        refine i_icmp (c' := x2 ≤ 1) (cc3 c101_23) (iz_le rr.2 (by decide : Rg (1 : Int))) (fun c => ?_) (fun c => ?_)
        · have h := h.1 c
          refine p_ald (cc3 c101_30) rfl ?_
          refine w_geti hW (v := A 0 14) (cc3 c101_31) (st_k hT 0 12 (by decide)) (ji := 14) rfl rfl ?_
          refine i_if (c' := (A 0 14) < 0) (cc3 c101_34) (c_lt0 (hR 0 14)) (fun c => ?_) (fun c => ?_)
          · have h := h.1 c
            refine p_lc (ls' := [(2, .int (iz x2)), (3, .ref (lo W (qK x1)))]) c101_60 rfl rfl ?_
            refine p_push (cct c101_60 rfl) ?_
            refine p_astN (ls' := [(4, .null), (2, .int (iz x2)), (3, .ref (lo W (qK x1)))]) (cct c101_61 rfl) (by decide) rfl ?_
            refine p_aldN (cc3 c101_63) rfl ?_
            refine p_ifnN (cc3 c101_65) ?_
            refine p_push (cc3 c101_68) ?_
            refine p_goto (cc3 c101_71) ?_
            refine p_lc (ls' := []) c101_82 rfl rfl ?_
            exact p_rl (cct c101_82 rfl) h
          · have h := h.2 c
            refine p_ald (cc3 c101_37) rfl ?_
            refine w_geti hW (v := A 0 14) (cc3 c101_38) (st_k hT 0 12 (by decide)) (ji := 14) rfl rfl ?_
            refine p_ald (cc3 c101_41) rfl ?_
            refine w_geti hW (v := A 0 13) (cc3 c101_42) (st_k hT 0 12 (by decide)) (ji := 13) rfl rfl ?_
            refine i_icmp (c' := (A 0 13) ≤ (A 0 14)) (cc3 c101_45) (iz_le (hR 0 13) (hR 0 14)) (fun c => ?_) (fun c => ?_)
            · have h := h.1 c
              refine p_lc (ls' := [(2, .int (iz x2)), (3, .ref (lo W (qK x1)))]) c101_60 rfl rfl ?_
              refine p_push (cct c101_60 rfl) ?_
              refine p_astN (ls' := [(4, .null), (2, .int (iz x2)), (3, .ref (lo W (qK x1)))]) (cct c101_61 rfl) (by decide) rfl ?_
              refine p_aldN (cc3 c101_63) rfl ?_
              refine p_ifnN (cc3 c101_65) ?_
              refine p_push (cc3 c101_68) ?_
              refine p_goto (cc3 c101_71) ?_
              refine p_lc (ls' := []) c101_82 rfl rfl ?_
              exact p_rl (cct c101_82 rfl) h
            · have h := h.2 c
              refine p_ald (cc3 c101_48) rfl ?_
              refine w_getp hW hT.1 (b := 19) (cc3 c101_49) (st_k hT 0 12 (by decide)) (ji := 8) rfl (st_p hT 0 8 19 (by decide)) ?_
              refine p_ald (cc3 c101_52) rfl ?_
              refine w_geti hW (v := A 0 14) (cc3 c101_53) (st_k hT 0 12 (by decide)) (ji := 14) rfl rfl ?_
              obtain ⟨g4, h⟩ := h
              obtain ⟨g5, h⟩ := h
              refine w_aldp hW hT.1 (cc3 c101_56) (st_k hT 19 26 (by decide)) (st_i hT 19 6 (by decide) g4) g5 ?_
              refine p_goto (cc3 c101_57) ?_
              refine p_lc (ls' := [(2, .int (iz x2)), (3, .ref (lo W (qK x1)))]) c101_61 rfl rfl ?_
              refine p_ast (ls' := [(4, .ref (lo W (P 19 (A 0 14) - 1))), (2, .int (iz x2)), (3, .ref (lo W (qK x1)))]) (cct c101_61 rfl) (by decide) rfl ?_
              refine p_ald (cc3 c101_63) rfl ?_
              refine p_ifnR (cc3 c101_65) ?_
              refine p_ald (cc3 c101_74) rfl ?_
              refine p_ild (cc3 c101_76) rfl ?_
              refine p_ald (cc3 c101_77) rfl ?_
              obtain ⟨g6, h⟩ := h
              obtain ⟨g7, h⟩ := h
              obtain ⟨g8, h⟩ := h
              obtain ⟨g9, h⟩ := h
              obtain ⟨g10, h⟩ := h
              obtain ⟨g11, h⟩ := h
              obtain ⟨r_1, A_1, he, hr_1, hR_1, hp_1⟩ := S102 (A := A) (P := P) (Nat.le_trans (by decide) hd) hW hR hT hG rr.2 ⟨g6, g7, g8, g9, g10⟩
              have h := h r_1 A_1 hr_1 hR_1 hp_1
              refine p_callV (cc3 c101_78) (Nat.le_of_ble_eq_true rfl) rfl rfl (Nat.le_of_ble_eq_true rfl) (wk_kd hW (by decide) g11) he ?_
              refine p_i2l (cc3 c101_81) ?_
              refine p_lc (ls' := []) c101_82 rfl rfl ?_
              exact p_rl (cct c101_82 rfl) h
        · have h := h.2 c
          refine p_lc (ls' := []) c101_26 rfl rfl ?_
          refine p_push (cct c101_26 rfl) ?_
          exact p_rl (cc3 c101_29) h
theorem S101 {d : Nat} (hd : 3 ≤ d) {W : gW} (hW : HW W) {A : Nat → Int → Int} {P : Nat → Int → Nat} (hR : RG A) (hT : Stat W P) (hG : GL W) {x1 x2 : Int} (rr : Rg x1 ∧ Rg x2) (hp : (RelA W P A)) : ∃ (r : Int64) (A' : Nat → Int → Int), xev xT d 101 [.ref (lo W 0), .int (iz x1), .int (iz x2)] (Wm W A P) (some (.long r)) (Wm W A' P) ∧ RG A' ∧ (r = m_saysv (mo A) x1 x2 ∧ SyF A A' (mo A 0 43)) := by
  refine xev_g (i := 101) (as := [.ref (lo W 0), .int (iz x1), .int (iz x2)]) (σ := Wm W A P) (Q := fun r_ σ_ => ∃ (r : Int64) (A' : Nat → Int → Int), r_ = (some (.long r)) ∧ σ_ = Wm W A' P ∧ RG A' ∧ (r = m_saysv (mo A) x1 x2 ∧ SyF A A' (mo A 0 43))) (D := 2) hd (Nat.le_of_ble_eq_true rfl) (fun r_ σ_ he hq => ?_) (fun d hd => V101_0 hd hW hR hT hG rr ?_)
  · obtain ⟨r, A', rfl, rfl, hq⟩ := hq
    exact ⟨r, A', he, hq⟩

  have out : ¬ (((0 ≤ x1 ∧ x1 ≤ mo A 0 13 - 1) ∧ 0 ≤ mo A 20 x1) ∧ (0 ≤ x2 ∧ x2 ≤ 1)) → ∃ (r : Int64) (A' : Nat → Int → Int), some (Value.long (-4611686018427387904)) = some (Value.long r) ∧ Wm W A P = Wm W A' P ∧ RG A' ∧ (r = m_saysv (mo A) x1 x2 ∧ SyF A A' (mo A 0 43)) := fun z => ⟨_, A, rfl, rfl, hR, by unfold m_saysv; rw [if_neg z], fun _ _ _ => rfl, fun _ _ => rfl⟩

  have hct := hp.cto
  obtain ⟨hn1, hn2, hn3, hn4, hn5, hn6⟩ := hp.cn
  have hcs := hct.1
  by_cases q : 0 ≤ x1 ∧ x1 < A 0 12
  · obtain ⟨hO, hB, ⟨n0, n1, n2, n3, n4, n5, n6, n7, n8, n9, n12⟩, hU, hL, hN⟩ := hp.ki q.1 (by omega)
    have k3 := hO.1
    have k10 := hO.2.1
    have hOL := hO.2.2.1
    have k5 := hO.2.2.1.1.1
    have ho4 := hO.2.2.2.1
    have ho8 := hO.2.2.2.2.1
    have ho := hO.2.2.2.2.2.2
    by_cases hl : mo A 20 x1 < 0
    · obtain ⟨u1, u2, u3, u4⟩ := hU hl
      exact ⟨hct, fun z => absurd q z, fun _ => ⟨k3, fun _ => out (by omega), fun z => absurd u1 z⟩⟩
    · obtain ⟨v1, v2, v3, v4, v5, v6, v7, v8, v9⟩ := hL (by omega)
      have oR0 := hp.ok.2.2.2.2.2
      have htx := hp.tx oR0.1 oR0.2
      have ep : P 19 (mo A 0 43) - 1 = qT (mo A 0 43) := by rw [htx.1, Nat.add_sub_cancel]
      refine ⟨hct, fun z => absurd q z, fun _ => ⟨k3, fun z => absurd z (by omega), fun _ => ⟨fun z => out (by omega), fun z1 => ⟨fun z2 => ⟨fun z => absurd z (by omega), fun _ => ⟨fun z => absurd z (by omega), fun _ => ?_⟩⟩, fun z => out (by omega)⟩⟩⟩⟩
      have hx2 := htx.2.2.2.2 x2 (by omega) z2
      rw [hn5, ep]
      refine ⟨by have := hp.ok.2.2.2.2.1; omega, by rw [htx.1]; omega, htx.2.1, hO, htx.2.2.1, htx.2.2.2.1, hx2.2.1, htx.2.1.1.1, fun r_1 A1 rr1 RA1 hq => ?_⟩
      have hkl := hL (by omega)
      refine ⟨_, A1, rfl, rfl, RA1, ?_, fun c z1 z2 => hq.1.1 c (by simp; exact z2) z1, fun j z => hq.1.2 j (by simp; exact z)⟩
      unfold m_saysv
      rw [if_pos ⟨⟨⟨q.1, by omega⟩, by omega⟩, by omega, z2⟩, hq.2, hx2.1, fct_k (hp.ki q.1 (by omega)).2.2.1 hkl]
  · exact ⟨hct, fun z => out (by omega), fun z => absurd (Classical.not_not.mp z) q⟩
theorem cl_19 {W : gW} {P : Nat → Int → Nat} {A : Nat → Int → Int} (h : Sta W P A) {x1 x2 : Int} (rr : Rg x1 ∧ Rg x2) : Cll 101 187 [.int (iz x1), .int (iz x2)] W P A := by
  have hr := h.2.2.2.2
  have oT0 := hr.ok.2.2.2.2.1
  have oR0 := hr.ok.2.2.2.2.2
  obtain ⟨r, A', hx, r2, r3, r4⟩ := S101 (d := 190) (by decide) h.1 h.2.1 h.2.2.1 h.2.2.2.1 rr hr
  obtain ⟨rm, M', hm, m2, m3, m4, m5⟩ := S187 (d := 190) (by decide) (h.ml2 h.2.2.1.1 hr.mod A') (rg_mo h.2.1) rr ⟨hr.ok.2.2.1, by omega, fun q q0 q1 => ((hr.tx oR0.1 oR0.2).2.2.2.2 q q0 q1).2.2⟩
  have e : rm = m_saysv (mo A) x1 x2 := by
    unfold m_saysv
    by_cases c : ((0 ≤ x1 ∧ x1 ≤ mo A 0 13 - 1) ∧ 0 ≤ mo A 20 x1) ∧ (0 ≤ x2 ∧ x2 ≤ 1)
    · rw [if_pos c]; exact m4 c
    · rw [if_neg c]; exact m5 c
  rw [r3, ← e] at hx
  have qt := qT_d (s := mo A 0 43)
  exact stp_m3 h hx (fun c hc => r4.1 c (by omega) (by omega)) hm r2 m2 (hr.says oR0 r4 m3)
theorem V108_0 {d : Nat} (hd : 5 ≤ d) {Q : Option Value → xM → Prop} {W : gW} (hW : HW W) {A : Nat → Int → Int} {P : Nat → Int → Nat} (hR : RG A) (hT : Stat W P) (hG : GL W) {a1 : Nat} (h : (gK W a1 = 3) ∧ ((((A a1 15) = 0) → (((P 0 15 = 0) → False) ∧ (¬ (P 0 15 = 0) → (OKi W P A a1) ∧ (OBt W P A (P 0 15 - 1)) ∧ (OSt W P A (P (P 0 15 - 1) 0 - 1)) ∧ (29 ≤ a1 ∧ 29 ≤ (P 0 15 - 1) ∧ 29 ≤ P (P 0 15 - 1) 0 - 1) ∧ (∀ (r_1 : Int) (A_1 : Nat → Int → Int) (P_1 : Nat → Int → Nat), Rg r_1 → RG A_1 → Stat W P_1 → (P_1 = UP (UP (UP P 8 5 (a1 + 1)) 8 6 ((P 0 15 - 1) + 1)) 8 7 (P (P 0 15 - 1) 0) ∧ LyS A A_1 a1 (P 0 15 - 1) (P (P 0 15 - 1) 0 - 1) ∧ r_1 = (if A_1 8 4 = -1 then -1 else k_usd A_1 a1 (P (P 0 15 - 1) 0 - 1) (A_1 8 4))) → Q (some (.int (iz r_1))) (Wm W (UA A_1 a1 15 r_1) P_1))))) ∧ (¬ ((A a1 15) = 0) → Q (some (.int (iz (A a1 15)))) (Wm W A P)))) : wpE (xT 108) (xev xT d) Q (0, [(0, .ref (lo W 0)), (1, .ref (lo W a1))], [], Wm W A P) := by
  refine p_ald (cc3 c108_0) rfl ?_
  obtain ⟨g1, h⟩ := h
  refine w_geti hW (v := A a1 15) (cc3 c108_1) g1 (ji := 15) rfl rfl ?_
  refine i_if (c' := (A a1 15) = 0) (cc3 c108_4) (c_eq0 (hR a1 15)) (fun c => ?_) (fun c => ?_)
  · have h := h.1 c
    refine p_ald (cc3 c108_7) rfl ?_
    refine p_ald (cc3 c108_8) rfl ?_
    refine w_getp hW hT.1 (b := 8) (cc3 c108_9) (st_k hT 0 12 (by decide)) (ji := 3) rfl (st_p hT 0 3 8 (by decide)) ?_
    refine p_ald (cc3 c108_12) rfl ?_
    refine p_ald (cc3 c108_13) rfl ?_
    refine w_getz hW hT.1 (cc3 c108_14) (st_k hT 0 12 (by decide)) (ji := 15) rfl ?_ ?_
    · intro cz2
      have h := h.1 cz2
      exact h.elim
    · intro cz2
      have h := h.2 cz2
      obtain ⟨g3, h⟩ := h
      obtain ⟨g4, h⟩ := h
      obtain ⟨g5, h⟩ := h
      obtain ⟨g6, h⟩ := h
      obtain ⟨r_1, A_1, P_1, he, hr_1, hR_1, hT_1, hp_1⟩ := S69 (A := A) (P := P) (Nat.le_trans (by decide) hd) hW hR hT hG ⟨g3, g4, g5, g6⟩
      have h := h r_1 A_1 P_1 hr_1 hR_1 hT_1 hp_1
      refine p_callV (cc3 c108_17) (Nat.le_of_ble_eq_true rfl) rfl rfl (Nat.le_of_ble_eq_true rfl) (wk_kd hW (by decide) (st_k hT 8 4 (by decide))) he ?_
      refine id (α := Rg r_1 → _) (fun _ => ?_) hr_1; refine w_puti hW (cc3 c108_20) g1 (ji := 15) rfl ?_
      refine p_lc (ls' := [(1, .ref (lo W a1))]) c108_23 rfl rfl ?_
      refine p_ald (cct c108_23 rfl) rfl ?_
      refine w_geti hW (v := r_1) (cc3 c108_24) g1 (ji := 15) rfl (by first | rfl | exact UA_eq | exact UA_j (by decide) | exact UA_c (by decide) | simp [UA]) ?_
      exact p_ri (cc3 c108_27) trivial h
  · have h := h.2 c
    refine p_lc (ls' := [(1, .ref (lo W a1))]) c108_23 rfl rfl ?_
    refine p_ald (cct c108_23 rfl) rfl ?_
    refine w_geti hW (v := A a1 15) (cc3 c108_24) g1 (ji := 15) rfl rfl ?_
    exact p_ri (cc3 c108_27) trivial h
theorem S108 {d : Nat} (hd : 6 ≤ d) {W : gW} (hW : HW W) {A : Nat → Int → Int} {P : Nat → Int → Nat} (hR : RG A) (hT : Stat W P) (hG : GL W) (M : Nat → Int → Int) (x : Int) {a1 : Nat} (hp : (Rel W P A M) ∧ ((0 ≤ x ∧ x < M 0 13) ∧ 0 < M 0 2 ∧ m_hasS M x 0) ∧ (a1 = qK x)) : ∃ (r : Int) (A' : Nat → Int → Int) (P' : Nat → Int → Nat), xev xT d 108 [.ref (lo W 0), .ref (lo W a1)] (Wm W A P) (some (.int (iz r))) (Wm W A' P') ∧ Rg r ∧ RG A' ∧ Stat W P' ∧ (r = (if m_need M x = 1000000 then -1 else m_need M x) ∧ Rel W P' A' M ∧ NdF A A' x ∧ ∀ c : Nat, ¬ c = 8 → P' c = P c) := by
  refine xev_g (i := 108) (as := [.ref (lo W 0), .ref (lo W a1)]) (σ := Wm W A P) (Q := fun r_ σ_ => ∃ (r : Int) (A' : Nat → Int → Int) (P' : Nat → Int → Nat), r_ = (some (.int (iz r))) ∧ σ_ = Wm W A' P' ∧ Rg r ∧ RG A' ∧ Stat W P' ∧ (r = (if m_need M x = 1000000 then -1 else m_need M x) ∧ Rel W P' A' M ∧ NdF A A' x ∧ ∀ c : Nat, ¬ c = 8 → P' c = P c)) (D := 5) hd (Nat.le_of_ble_eq_true rfl) (fun r_ σ_ he hq => ?_) (fun d hd => V108_0 hd hW hR hT hG ?_)
  · obtain ⟨r, A', P', rfl, rfl, hq⟩ := hq
    exact ⟨r, A', P', he, hq⟩

  obtain ⟨hr, ⟨⟨k0, k1⟩, h2, hs⟩, rfl⟩ := hp
  have ki := hr.ki k0 k1
  obtain ⟨w1, w2, w3, w4, w5⟩ := hr.wb.2 h2
  have hse := hr.se (s := 0) (Int.le_refl 0) h2
  have q100 : qS 0 = 100 := rfl
  have hS := hse.1
  rw [q100] at hS
  have e1 : P 0 15 - 1 = 240 := by rw [w1]
  have e2 : P 240 0 - 1 = 100 := by rw [w5]
  have qk := qK_d (s := x)
  have k8 := hr.ok.2.2.1.1
  have hLM := lyM_need hr k0 k1 h2 hs
  have enM : m_need M x = (lyB (Nd M) x 4 0 4).1 := by unfold m_need; rw [if_pos hs]
  rw [e1, e2]
  refine ⟨ki.1.1, fun z => ⟨fun z2 => absurd z2 (by rw [w1]; decide), fun _ => ⟨ki.1, w2, hS, ⟨by omega, by decide, by decide⟩, fun r_1 A1 P1 rr1 RA1 TP1 hq => ?_⟩⟩, fun z => ?_⟩
  · obtain ⟨q1, q2, q3⟩ := hq
    have q2' := q2
    obtain ⟨hF, -, -, -, hI, h84⟩ := q2
    have hLT := lyT_of q2' (by omega) (by decide)
    have rw1 : ∀ c, 29 ≤ c → A1 c = A c := fun c hc => hF.1 c (by simp; omega) (by omega)
    have hM1 : LyM A1 (qK x) 240 100 (Nd M) x 4 0 := hLM.same2 (rw1 _ (by omega)) (rw1 _ (by decide)) (rw1 _ (by decide)) (rw1 _ (by decide)) (rw1 _ (by decide))
    obtain ⟨y1, y2⟩ := lay_k hM1 hLT hI h84
    have er : r_1 = if m_need M x = 1000000 then -1 else m_need M x := by
      rw [enM, y1, q3]
      by_cases c : A1 8 4 = -1
      · rw [if_pos c, if_pos c, if_pos rfl]
      · have := (y2 c).1
        rw [if_neg c, if_neg c, if_neg (by omega)]
    have hNF : NdF A (UA A1 (qK x) 15 r_1) x := ⟨fun c z1 z2 z3 z4 => by rw [UA_n z4]; exact hF.1 c (by simp; omega) z1, fun j hj => by rw [UA_j hj, rw1 _ (by omega)]⟩
    have hPP : ∀ c : Nat, ¬ c = 8 → P1 c = P c := fun c hc => by rw [q1, UP_n hc, UP_n hc, UP_n hc]
    refine ⟨r_1, _, P1, rfl, rfl, rr1, rg_UA RA1 rr1, TP1, er, hr.nd k0 k1 hNF hPP ?_, hNF, hPP⟩
    rw [UA_eq]
    refine Or.inr ⟨h2, hs, A1, qK x, 240, 100, hM1, hLT, ?_⟩
    rw [← lyB_k hM1 hLT 4, ← enM]
    exact er
  · refine ⟨A (qK x) 15, A, P, rfl, rfl, hR _ _, hR, hT, ?_, hr, ⟨fun _ _ _ _ _ => rfl, fun _ _ => rfl⟩, fun _ _ => rfl⟩
    rcases ki.2.2.2.2.2 with y | ⟨-, -, A1, k1', b1', s1', hL1, hT1, hv⟩
    · exact absurd y z
    · rw [enM, lyB_k hL1 hT1 4]
      exact hv
theorem V107_0 {d : Nat} (hd : 6 ≤ d) {Q : Option Value → xM → Prop} {W : gW} (hW : HW W) {A : Nat → Int → Int} {P : Nat → Int → Nat} (hR : RG A) (hT : Stat W P) (hG : GL W) {x1 : Int} (rr : Rg x1) (h : (CtO P A) ∧ (((¬ (0 ≤ x1 ∧ x1 < A 0 12)) → Q (some (.int (iz (-2)))) (Wm W A P)) ∧ (¬ (¬ (0 ≤ x1 ∧ x1 < A 0 12)) → (((P 0 15 = 0) → Q (some (.int (iz (-3)))) (Wm W A P)) ∧ (¬ (P 0 15 = 0) → (gK W (P 0 15 - 1) = 1) ∧ (¬ P (P 0 15 - 1) 0 = 0) ∧ (gK W (qK x1) = 3) ∧ (gK W (P (P 0 15 - 1) 0 - 1) = 6) ∧ ((¬ (A (qK x1) 9 = 0 ∨ (0 ≤ A (qK x1) 5 ∧ A (qK x1) 5 < A (P (P 0 15 - 1) 0 - 1) 0)) → Q (some (.int (iz (-3)))) (Wm W A P)) ∧ ((A (qK x1) 9 = 0 ∨ (0 ≤ A (qK x1) 5 ∧ A (qK x1) 5 < A (P (P 0 15 - 1) 0 - 1) 0)) → (Rel W P A (mo A)) ∧ ((0 ≤ x1 ∧ x1 < (mo A) 0 13) ∧ 0 < (mo A) 0 2 ∧ m_hasS (mo A) x1 0) ∧ ((qK x1) = qK x1) ∧ (∀ (r_1 : Int) (A_1 : Nat → Int → Int) (P_1 : Nat → Int → Nat), Rg r_1 → RG A_1 → Stat W P_1 → (r_1 = (if m_need (mo A) x1 = 1000000 then -1 else m_need (mo A) x1) ∧ Rel W P_1 A_1 (mo A) ∧ NdF A A_1 x1 ∧ ∀ c : Nat, ¬ c = 8 → P_1 c = P c) → Q (some (.int (iz r_1))) (Wm W A_1 P_1))))))))) : wpE (xT 107) (xev xT d) Q (0, [(0, .ref (lo W 0)), (1, .int (iz x1))], [], Wm W A P) := by
  refine p_ald (cc3 c107_0) rfl ?_
  refine p_ild (cc3 c107_1) rfl ?_
  obtain ⟨g1, h⟩ := h
  have he := S66 (Nat.le_trans (by decide) hd) hW hR hT hG rr g1
  refine nul_c (c := ¬ (0 ≤ x1 ∧ x1 < A 0 12)) he (fun c he => ?_) (fun c he => ?_) <;> refine p_callV (cc3 c107_2) (Nat.le_of_ble_eq_true rfl) rfl rfl (Nat.le_of_ble_eq_true rfl) (wk_kd hW (by decide) (st_k hT 0 12 (by decide))) he ?_
  · have h := h.1 c
    refine p_astN (ls' := [(2, .null), (0, .ref (lo W 0)), (1, .int (iz x1))]) (cc3 c107_5) (by decide) rfl ?_
    refine p_aldN (cc3 c107_6) rfl ?_
    refine p_ifnN (cc3 c107_7) ?_
    refine i_push (n := (-2)) (cc3 c107_10) zl_m2 ?_
    exact p_ri (cc3 c107_12) trivial h
  · have h := h.2 c
    refine p_ast (ls' := [(2, .ref (lo W (qK x1))), (0, .ref (lo W 0)), (1, .int (iz x1))]) (cc3 c107_5) (by decide) rfl ?_
    refine p_ald (cc3 c107_6) rfl ?_
    refine p_ifnR (cc3 c107_7) ?_
    refine p_ald (cc3 c107_13) rfl ?_
    refine w_getz hW hT.1 (cc3 c107_14) (st_k hT 0 12 (by decide)) (ji := 15) rfl ?_ ?_
    · intro cz2
      have h := h.1 cz2
      refine p_ifnN (cc3 c107_17) ?_
      refine p_lc (ls' := []) c107_34 rfl rfl ?_
      refine i_push (n := (-3)) (cct c107_34 rfl) zl_m3 ?_
      exact p_ri (cc3 c107_36) trivial h
    · intro cz2
      have h := h.2 cz2
      refine p_ifnR (cc3 c107_17) ?_
      refine p_ald (cc3 c107_20) rfl ?_
      refine p_ald (cc3 c107_21) rfl ?_
      refine w_getz1 hW hT.1 (cc3 c107_22) (st_k hT 0 12 (by decide)) (ji := 15) rfl cz2 ?_
      obtain ⟨g3, h⟩ := h
      obtain ⟨g4, h⟩ := h
      refine w_getp0 hW hT.1 (cc3 c107_25) g3 (ji := 0) rfl g4 ?_
      obtain ⟨g5, h⟩ := h
      obtain ⟨g6, h⟩ := h
      refine p_callV (cc3 c107_28) (Nat.le_of_ble_eq_true rfl) rfl rfl (Nat.le_of_ble_eq_true rfl) (wk_kd hW (by decide) g5) (S68 (Nat.le_trans (by decide) hd) hW hR hT hG ⟨g5, g6⟩) ?_
      refine i_ifB (cc3 c107_31) (fun c => ?_) (fun c => ?_)
      · have h := h.1 c
        refine p_lc (ls' := []) c107_34 rfl rfl ?_
        refine i_push (n := (-3)) (cct c107_34 rfl) zl_m3 ?_
        exact p_ri (cc3 c107_36) trivial h
      · have h := h.2 c
        refine p_ald (cc3 c107_37) rfl ?_
        refine p_ald (cc3 c107_38) rfl ?_
        obtain ⟨g7, h⟩ := h
        obtain ⟨g8, h⟩ := h
        obtain ⟨g9, h⟩ := h
        obtain ⟨r_1, A_1, P_1, he, hr_1, hR_1, hT_1, hp_1⟩ := S108 (A := A) (P := P) (Nat.le_trans (by decide) hd) hW hR hT hG (mo A) x1 ⟨g7, g8, g9⟩
        have h := h r_1 A_1 P_1 hr_1 hR_1 hT_1 hp_1
        refine p_callV (cc3 c107_39) (Nat.le_of_ble_eq_true rfl) rfl rfl (Nat.le_of_ble_eq_true rfl) (wk_kd hW (by decide) (st_k hT 0 12 (by decide))) he ?_
        exact p_ri (cc3 c107_42) trivial h
theorem S107 {d : Nat} (hd : 7 ≤ d) {W : gW} (hW : HW W) {A : Nat → Int → Int} {P : Nat → Int → Nat} (hR : RG A) (hT : Stat W P) (hG : GL W) {x1 : Int} (rr : Rg x1) (hp : (RelA W P A)) : ∃ (r : Int) (A' : Nat → Int → Int) (P' : Nat → Int → Nat), xev xT d 107 [.ref (lo W 0), .int (iz x1)] (Wm W A P) (some (.int (iz r))) (Wm W A' P') ∧ Rg r ∧ RG A' ∧ Stat W P' ∧ (r = m_needs (mo A) x1 ∧ Rel W P' A' (mo A) ∧ ∀ c : Nat, 500 ≤ c → A' c = A c) := by
  refine xev_g (i := 107) (as := [.ref (lo W 0), .int (iz x1)]) (σ := Wm W A P) (Q := fun r_ σ_ => ∃ (r : Int) (A' : Nat → Int → Int) (P' : Nat → Int → Nat), r_ = (some (.int (iz r))) ∧ σ_ = Wm W A' P' ∧ Rg r ∧ RG A' ∧ Stat W P' ∧ (r = m_needs (mo A) x1 ∧ Rel W P' A' (mo A) ∧ ∀ c : Nat, 500 ≤ c → A' c = A c)) (D := 6) hd (Nat.le_of_ble_eq_true rfl) (fun r_ σ_ he hq => ?_) (fun d hd => V107_0 hd hW hR hT hG rr ?_)
  · obtain ⟨r, A', P', rfl, rfl, hq⟩ := hq
    exact ⟨r, A', P', he, hq⟩

  obtain ⟨hn1, hn2, hn3, hn4, hn5, hn6⟩ := hp.cn
  have out : ∀ v : Int, Rg v → m_needs (mo A) x1 = v → ∃ (r : Int) (A' : Nat → Int → Int) (P' : Nat → Int → Nat), some (Value.int (iz v)) = some (Value.int (iz r)) ∧ Wm W A P = Wm W A' P' ∧ Rg r ∧ RG A' ∧ Stat W P' ∧ (r = m_needs (mo A) x1 ∧ Rel W P' A' (mo A) ∧ ∀ c : Nat, 500 ≤ c → A' c = A c) := fun v hv e => ⟨v, A, P, rfl, rfl, hv, hR, hT, e.symm, hp, fun _ _ => rfl⟩
  have s4 := hp.ok.1.1
  refine ⟨hp.cto, fun z => out (-2) (by decide) (by unfold m_needs; rw [if_neg (by omega)]), fun z => ⟨fun z2 => out (-3) (by decide) ?_, fun z2 => ?_⟩⟩
  · unfold m_needs
    have m0 : mo A 0 2 = 0 := by
      apply Classical.byContradiction
      intro c
      have := (hp.wb.2 (by omega)).1
      omega
    rw [if_pos (by omega), if_neg (fun w => w.1 m0)]
  · have h2 : 0 < mo A 0 2 := by
      apply Classical.byContradiction
      intro c
      exact z2 (hp.wb.1 (by omega))
    obtain ⟨w1, w2, w3, w4, w5⟩ := hp.wb.2 h2
    have e1 : P 0 15 - 1 = 240 := by rw [w1]
    have e2 : P 240 0 - 1 = 100 := by rw [w5]
    have q := Classical.not_not.mp z
    have ki := hp.ki q.1 (by omega)
    have hk := (hp.ok.2.2.1.2 x1 q.1 (by omega)).1
    obtain ⟨n0, n1, n2, n3, n4, n5, n6, n7, n8, n9, n12⟩ := ki.2.2.1
    have hse := hp.se (s := 0) (Int.le_refl 0) h2
    have q100 : qS 0 = 100 := rfl
    have hS := hse.1.1.1
    have e0 := hse.2.1.1
    rw [q100] at hS e0
    have hcond : (A (qK x1) 9 = 0 ∨ (0 ≤ A (qK x1) 5 ∧ A (qK x1) 5 < A 100 0)) ↔ m_hasS (mo A) x1 0 := by
      unfold m_hasS
      rw [n9, n5, e0]
      have := hk.2.2.2.2.2.1
      constructor
      · rintro (y | y)
        · exact Or.inl y
        · exact Or.inr y.2
      · rintro (y | y)
        · exact Or.inl y
        · exact Or.inr ⟨this.1, y⟩
    rw [e1, e2]
    refine ⟨w2.1.1, by rw [w5]; decide, ki.1.1, hS, fun y => out (-3) (by decide) ?_, fun y => ⟨hp, ⟨⟨q.1, by omega⟩, h2, hcond.mp y⟩, rfl, fun r_1 A1 P1 rr1 RA1 TP1 hq => ?_⟩⟩
    · unfold m_needs
      rw [if_pos (by omega), if_neg (fun w => y (hcond.mpr w.2))]
    · obtain ⟨q1, q2, q3, q4⟩ := hq
      refine ⟨r_1, A1, P1, rfl, rfl, rr1, RA1, TP1, ?_, q2, fun c hc => q3.1 c (by omega) (by omega) (by omega) (by have := qK_d (s := x1); have := hp.ok.2.2.1.1; omega)⟩
      unfold m_needs
      rw [if_pos (by omega), if_pos ⟨by omega, hcond.mp y⟩]
      exact q1
theorem cl_20 {W : gW} {P : Nat → Int → Nat} {A : Nat → Int → Int} (h : Sta W P A) {x1 : Int} (rr : Rg x1) : Cll 107 190 [.int (iz x1)] W P A := by
  have hr := h.2.2.2.2
  obtain ⟨r, A', P', hx, r1, r2, r3, r4, r5, r6⟩ := S107 (d := 190) (by decide) h.1 h.2.1 h.2.2.1 h.2.2.2.1 rr hr
  obtain ⟨rm, M', hm, m1, m2, m3, m4⟩ := S190 (d := 190) (by decide) (h.ml2 (W := W) r3.1 r5.mod A') (rg_mo h.2.1) rr ⟨hr.ok.1, hr.ok.2.2.1⟩
  rw [r4, ← m3] at hx
  refine stp_m2 hx (mo_n fun c hc => r6 c (by omega)) hm h.1 r2 m2 r3 h.2.2.2.1 ?_ ⟨⟨rfl, rfl, rfl⟩, ⟨rfl, rfl⟩, r6 540 (by decide)⟩ ⟨Nat.le_add_right _ _, Nat.le_add_right _ _⟩
  refine r5.mnf (fun c j z => m4 c j (fun w => z (Or.inl w))) (fun j hj => ?_)
  rw [r5.cu j hj, m4 41 j (by unfold ndRows; omega)]
