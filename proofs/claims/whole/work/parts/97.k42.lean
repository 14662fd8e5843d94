section MORE
variable {W : gW} {P P' : Nat → Int → Nat} {A A' M M' : Nat → Int → Int}
theorem mo_n (h : ∀ c, 1000 ≤ c → A' c = A c) : mo A' = mo A := funext fun c => h _ (by omega)
theorem Sta.ml2 (h : Sta W P A) (hT : HR W P') (hm : RMo W P') (B : Nat → Int → Int) : MLaw (lo W 1000) (PhW W B P') := ml_W h.1 hT hm
theorem stp_m2 {ix im : Nat} {as : List Value} {v : Value} {W' : gW} (hx : xev xT 190 ix (.ref (lo W 0) :: as) (Wm W A P) (some v) (Wm W' A' P')) (hmo : mo A' = mo A) (hm : xev xT 190 im (.ref (lo W' 1000) :: as) (PhW W' A' P' (mI (mo A))) (some v) (PhW W' A' P' (mI M'))) (h1 : HW W') (h2 : RG A') (h3 : RG M') (h4 : Stat W' P') (h5 : GL W') (h6 : Rel W' P' A' M') (h7 : Kp W W' A A') (h8 : gsz W' ≤ gsz W + 20 ∧ gsl W' ≤ gsl W + 2000) (hv : VIL ix v := by first | exact Or.inl ⟨by decide, _, rfl⟩ | exact Or.inr ⟨rfl, _, rfl⟩) : Cll ix im as W P A := stp_mk hx (by rw [hmo]; exact hm) h1 h2 h3 h4 h5 h6 h7 h8 hv
/-- nothing made, the references as they were -/
theorem stp_m3 {ix im : Nat} {as : List Value} {v : Value} (h : Sta W P A) (hx : xev xT 190 ix (.ref (lo W 0) :: as) (Wm W A P) (some v) (Wm W A' P)) (hA : ∀ c, 500 ≤ c → A' c = A c) (hm : xev xT 190 im (.ref (lo W 1000) :: as) (PhW W A' P (mI (mo A))) (some v) (PhW W A' P (mI M'))) (h2 : RG A') (h3 : RG M') (h6 : Rel W P A' M') (hv : VIL ix v := by first | exact Or.inl ⟨by decide, _, rfl⟩ | exact Or.inr ⟨rfl, _, rfl⟩) : Cll ix im as W P A := stp_m2 hx (mo_n fun c hc => hA c (by omega)) hm h.1 h2 h3 h.2.2.1 h.2.2.2.1 h6 ⟨⟨rfl, rfl, rfl⟩, ⟨rfl, rfl⟩, hA 540 (by decide)⟩ ⟨Nat.le_add_right _ _, Nat.le_add_right _ _⟩ hv
theorem Rel.g0 (h : Rel W P A M) (eP : ∀ c, ¬ c = 6 → ¬ c = 8 → P' c = P c) (eA : ∀ c, 21 ≤ c → c < 531 → A' c = A c) (eM : ∀ c, 2 ≤ c → c ≤ 45 → ¬ (29 ≤ c ∧ c ≤ 32) → ¬ (35 ≤ c ∧ c ≤ 42) → M' c = M c) (e0 : M' 0 2 = M 0 2 ∧ M' 0 42 = M 0 42 ∧ M' 0 8 = M 0 8 ∧ M' 0 13 = M 0 13) (c1 : A' 0 10 = A 0 10 ∧ A' 0 11 = A 0 11 ∧ A' 0 12 = A 0 12) (c2 : RCn A' M') (c3 : TpR A' (M' 1)) (cC : ∀ j : Nat, j < 8 → A' 14 j = M' 41 j) (oR : 0 ≤ M' 0 43 ∧ M' 0 43 < M' 0 42) : Rel W P' A' M' := by
  obtain ⟨oS0, oB0, oK0, oH0, oT0, oR0⟩ := h.ok
  have eS : ∀ s : Int, eqS M M' s := fun s => eqS_r (fun c hc => by simp at hc; exact eM c (by omega) (by omega) (by omega) (by omega)) s
  have eB : ∀ s : Int, eqB M M' s := fun s => eqB_r (fun c hc => by simp at hc; exact eM c (by omega) (by omega) (by omega) (by omega)) s
  have eK : ∀ s : Int, eqK M M' s := fun s => eqK_r (fun c hc => by simp at hc; exact eM c (by omega) (by omega) (by omega) (by omega)) s
  have eL : ∀ s : Int, eqL M M' s := fun s => eqL_r (fun c hc => by simp at hc; exact eM c (by omega) (by omega) (by omega) (by omega)) s
  have eT : ∀ s : Int, eqT M M' s := fun s => eqT_r (fun c hc => by simp at hc; exact eM c (by omega) (by omega) (by omega) (by omega)) s
  have eH : ∀ s : Int, eqH M M' s := fun s => eqH_r (fun c hc => by simp at hc; exact eM c (by omega) (by omega) (by omega) (by omega)) s
  exact h.gen (fun c q1 q2 _ => eP c q1 q2) (fun c q1 q2 _ _ => eA c (by omega) q2) (fun s _ _ => eS s) (fun t _ _ => eT t) e0 c1 c2 c3 (h.boS (fun c _ _ => eP c (by omega) (by omega)) (fun c _ _ => eA c (by omega) (by omega)) (fun b _ _ => eB b)) (h.kiS (fun c _ _ => eP c (by omega) (by omega)) (fun c _ _ => eA c (by omega) (by omega)) (fun k _ _ => ⟨eK k, eL k⟩) e0.1 (eS 0)) (h.shS (fun c _ _ => eP c (by omega) (by omega)) (fun c _ _ => eA c (by omega) (by omega)) (fun s _ _ => eH s)) cC (oB0.sm (fun b _ _ => eB b) e0.2.2.1 e0.1) (oK0.sm (fun k _ _ => ⟨eK k, eL k⟩) e0.2.2.2 e0.2.2.1) (oH0.same (eM 43 (by decide) (by decide) (by decide) (by decide)) (eM 44 (by decide) (by decide) (by decide) (by decide))) oR
theorem isF_k {b x l : Int} (h : RBo W P A M b) : k_isF A (qB b) x l ↔ m_isF M b x l = true := by
  obtain ⟨hO, ⟨e1, e2, e4⟩, hf, -⟩ := h
  have hb := hO.2.2.2.1
  unfold k_isF m_isF
  rw [e4, isF_congr (g := m_fl M b) (fun k hk => hf k (by omega) (by omega))]
end MORE
theorem V100_0 {d : Nat} (hd : 0 ≤ d) {Q : Option Value → xM → Prop} {W : gW} (hW : HW W) {A : Nat → Int → Int} {P : Nat → Int → Nat} (hR : RG A) (hT : Stat W P) (hG : GL W) {x1 : Int} (rr : Rg x1) (h : (((x1 < 0) → Q (some (.int (iz (-2)))) (Wm W A P)) ∧ (¬ (x1 < 0) → (((x1 < (A 0 13)) → Q (some (.int (iz (A 0 14)))) (Wm W (UA A 0 14 x1) P)) ∧ (¬ (x1 < (A 0 13)) → Q (some (.int (iz (-2)))) (Wm W A P)))))) : wpE (xT 100) (xev xT d) Q (0, [(0, .ref (lo W 0)), (1, .int (iz x1))], [], Wm W A P) := by
  refine p_ild (cc3 c100_0) rfl ?_
  refine i_if (c' := x1 < 0) (cc3 c100_1) (c_lt0 rr) (fun c => ?_) (fun c => ?_)
  · have h := h.1 c
    refine p_lc (ls' := []) c100_12 rfl rfl ?_
    refine i_push (n := (-2)) (cct c100_12 rfl) zl_m2 ?_
    exact p_ri (cc3 c100_14) trivial h
  · have h := h.2 c
    refine p_ild (cc3 c100_4) rfl ?_
    refine p_ald (cc3 c100_5) rfl ?_
    refine w_geti hW (v := A 0 13) (cc3 c100_6) (st_k hT 0 12 (by decide)) (ji := 13) rfl rfl ?_
    refine i_icmp (c' := x1 < (A 0 13)) (cc3 c100_9) (iz_lt rr (hR 0 13)) (fun c => ?_) (fun c => ?_)
    · have h := h.1 c
      refine p_ald (cc3 c100_15) rfl ?_
      refine w_geti hW (v := A 0 14) (cc3 c100_16) (st_k hT 0 12 (by decide)) (ji := 14) rfl rfl ?_
      refine p_ist (ls' := [(2, .int (iz (A 0 14))), (0, .ref (lo W 0)), (1, .int (iz x1))]) (cc3 c100_19) (by decide) rfl ?_
      refine p_ald (cc3 c100_20) rfl ?_
      refine p_ild (cc3 c100_21) rfl ?_
      refine id (α := Rg x1 → _) (fun _ => ?_) rr; refine w_puti hW (cc3 c100_22) (st_k hT 0 12 (by decide)) (ji := 14) rfl ?_
      refine p_ild (cc3 c100_25) rfl ?_
      exact p_ri (cc3 c100_26) trivial h
    · have h := h.2 c
      refine p_lc (ls' := []) c100_12 rfl rfl ?_
      refine i_push (n := (-2)) (cct c100_12 rfl) zl_m2 ?_
      exact p_ri (cc3 c100_14) trivial h
theorem S100 {d : Nat} (hd : 1 ≤ d) {W : gW} (hW : HW W) {A : Nat → Int → Int} {P : Nat → Int → Nat} (hR : RG A) (hT : Stat W P) (hG : GL W) {x1 : Int} (rr : Rg x1) (hp : (RelA W P A)) : xev xT d 100 [.ref (lo W 0), .int (iz x1)] (Wm W A P) (some (.int (iz (m_force_r (mo A) x1)))) (Wm W (if 0 ≤ x1 ∧ x1 < A 0 13 then UA A 0 14 x1 else A) P) := by
  refine xev_i (D := 0) hd (Nat.le_of_ble_eq_true rfl) (fun d hd => V100_0 hd hW hR hT hG rr ?_)

  obtain ⟨hn1, hn2, hn3, hn4, hn5, hn6⟩ := hp.cn

  refine ⟨fun z => ⟨?_, by rw [if_neg (by omega)]⟩, fun z => ⟨fun z2 => ⟨?_, by rw [if_pos (by omega)]⟩, fun z2 => ⟨?_, by rw [if_neg (by omega)]⟩⟩⟩
  all_goals unfold m_force_r
  · rw [if_neg (by omega)]
  · rw [if_pos (by omega), hn5]
  · rw [if_neg (by omega)]
theorem cl_18 {W : gW} {P : Nat → Int → Nat} {A : Nat → Int → Int} (h : Sta W P A) {x1 : Int} (rr : Rg x1) : Cll 100 186 [.int (iz x1)] W P A := by
  have hr := h.2.2.2.2
  obtain ⟨hn1, hn2, hn3, hn4, hn5, hn6⟩ := hr.cn
  have hx := S100 (d := 190) (by decide) h.1 h.2.1 h.2.2.1 h.2.2.2.1 rr hr
  have hm := fun B => S186 (d := 190) (by decide) (h.ml2 h.2.2.1.1 hr.mod B) (rg_mo h.2.1) rr hr.ok.2.2.2.2.1
  by_cases q : 0 ≤ x1 ∧ x1 < A 0 13
  · rw [if_pos q] at hx
    have e : m_force_n (mo A) x1 = UA (mo A) 0 43 x1 := by unfold m_force_n; rw [if_pos (by omega)]
    rw [e] at hm
    have m : ∀ c, ¬ c = 0 → UA (mo A) 0 43 x1 c = mo A c := fun c hc => UA_n hc
    have u : ∀ j : Int, ¬ j = 43 → UA (mo A) 0 43 x1 0 j = mo A 0 j := fun j hj => UA_j hj
    have a : ∀ c, ¬ c = 0 → UA A 0 14 x1 c = A c := fun c hc => UA_n hc
    have b : ∀ j : Int, ¬ j = 14 → UA A 0 14 x1 0 j = A 0 j := fun j hj => UA_j hj
    refine stp_m3 h hx (fun c hc => a c (by omega)) (hm _) (rg_UA h.2.1 rr) (rg_UA (rg_mo h.2.1) rr) ?_
    refine hr.g0 (fun _ _ _ => rfl) (fun c q1 _ => a c (by omega)) (fun c q1 _ _ _ => m c (by omega)) ⟨u 2 (by decide), u 42 (by decide), u 8 (by decide), u 13 (by decide)⟩ ⟨b 10 (by decide), b 11 (by decide), b 12 (by decide)⟩ ?_ ?_ ?_ ?_
    · unfold RCn
      rw [b 10 (by decide), b 11 (by decide), b 12 (by decide), b 13 (by decide), UA_eq, a 1 (by decide), u 2 (by decide), u 8 (by decide), u 13 (by decide), u 42 (by decide), UA_eq, u 1 (by decide)]
      exact ⟨hn1, hn2, hn3, hn4, rfl, hn6⟩
    · rw [m 1 (by decide)]
      exact hr.tp.same (a 1 (by decide)) (a 2 (by decide))
    · rw [a 14 (by decide), m 41 (by decide)]; exact hr.cu
    · rw [UA_eq, u 42 (by decide)]; omega
  · rw [if_neg q] at hx
    have e : m_force_n (mo A) x1 = mo A := by unfold m_force_n; rw [if_neg (by omega)]
    have hm := hm A
    rw [e] at hm
    exact stp_ro h hx hm
/-- bolts get a flaw alike -/
theorem Rel.mar {W : gW} {P : Nat → Int → Nat} {A M : Nat → Int → Int} (h : Rel W P A M) {b x : Int} (h0 : 0 ≤ b) (h1 : b < M 0 8) : k_mar_r A (qB b) x = m_flaw_r M b x ∧ Rel W P (k_mar_n A (qB b) x) (m_flaw_n M b x) := by
  obtain ⟨oS0, oB0, oK0, oH0, oT0, oR0⟩ := h.ok
  have hb := h.bo h0 h1
  have hk := isF_k (x := x) (l := 1) hb
  obtain ⟨hO, ⟨e1, e2, e4⟩, hf, h0p⟩ := hb
  have hbo := oB0.2 b h0 h1
  have b4 := oB0.1
  unfold k_mar_r m_flaw_r k_mar_n m_flaw_n
  simp only [e2, e4]
  by_cases q : 0 ≤ x ∧ x < M 8 b ∧ ¬ m_isF M b x 1 = true
  · have c1 : (0 ≤ x ∧ x < M 8 b ∧ ¬ k_isF A (qB b) x 1) := ⟨q.1, q.2.1, fun z => q.2.2 (hk.mp z)⟩
    have c2 : ((0 ≤ b ∧ b ≤ M 0 8 - 1) ∧ (0 ≤ x ∧ x ≤ M 8 b - 1) ∧ ¬ m_isF M b x 1 = true) := ⟨⟨h0, by omega⟩, ⟨q.1, by omega⟩, q.2.2⟩
    rw [if_pos c1, if_pos c2]
    by_cases f : M 9 b = 10
    · rw [if_pos (show 10 ≤ M 9 b by omega), if_pos f, if_neg (show ¬ ((0 ≤ x ∧ x < M 8 b ∧ ¬ k_isF A (qB b) x 1) ∧ ¬ 10 ≤ M 9 b) from fun z => z.2 (by omega)), if_neg (show ¬ (((0 ≤ b ∧ b ≤ M 0 8 - 1) ∧ (0 ≤ x ∧ x ≤ M 8 b - 1) ∧ ¬ m_isF M b x 1 = true) ∧ ¬ M 9 b = 10) from fun z => z.2 f)]
      exact ⟨rfl, h⟩
    · have f9 := hbo.2.2
      rw [if_neg (show ¬ 10 ≤ M 9 b by omega), if_neg f, if_pos (show (0 ≤ x ∧ x < M 8 b ∧ ¬ k_isF A (qB b) x 1) ∧ ¬ 10 ≤ M 9 b from ⟨c1, by omega⟩), if_pos (show ((0 ≤ b ∧ b ≤ M 0 8 - 1) ∧ (0 ≤ x ∧ x ≤ M 8 b - 1) ∧ ¬ m_isF M b x 1 = true) ∧ ¬ M 9 b = 10 from ⟨c2, f⟩)]
      refine ⟨rfl, ?_⟩
      have qb := qB_d (s := b)
      have a : ∀ c, ¬ c = qB b → ¬ c = qB b + 1 → UA (UA A (qB b + 1) (M 9 b) x) (qB b) 4 (M 9 b + 1) c = A c := fun c z1 z2 => (UA_n z1).trans (UA_n z2)
      have m : ∀ c, ¬ c = 9 → ¬ c = 10 → UA (UA M 10 (10 * b + M 9 b) x) 9 b (M 9 b + 1) c = M c := fun c z1 z2 => (UA_n z1).trans (UA_n z2)
      have eS : ∀ s : Int, eqS M (UA (UA M 10 (10 * b + M 9 b) x) 9 b (M 9 b + 1)) s := fun s => eqS_r (fun c hc => by simp at hc; exact m c (by omega) (by omega)) s
      have eK : ∀ s : Int, eqK M (UA (UA M 10 (10 * b + M 9 b) x) 9 b (M 9 b + 1)) s := fun s => eqK_r (fun c hc => by simp at hc; exact m c (by omega) (by omega)) s
      have eL : ∀ s : Int, eqL M (UA (UA M 10 (10 * b + M 9 b) x) 9 b (M 9 b + 1)) s := fun s => eqL_r (fun c hc => by simp at hc; exact m c (by omega) (by omega)) s
      have eT : ∀ s : Int, eqT M (UA (UA M 10 (10 * b + M 9 b) x) 9 b (M 9 b + 1)) s := fun s => eqT_r (fun c hc => by simp at hc; exact m c (by omega) (by omega)) s
      have eH : ∀ s : Int, eqH M (UA (UA M 10 (10 * b + M 9 b) x) 9 b (M 9 b + 1)) s := fun s => eqH_r (fun c hc => by simp at hc; exact m c (by omega) (by omega)) s
      have eB : ∀ i : Int, ¬ i = b → eqB M (UA (UA M 10 (10 * b + M 9 b) x) 9 b (M 9 b + 1)) i := fun i hi => ⟨by rw [m 7 (by decide) (by decide)], by rw [m 8 (by decide) (by decide)], by rw [UA_j hi, UA_c (by decide)], fun k k0 k1 => by rw [UA_c (by decide), UA_j (by omega)]⟩
      refine h.gen (fun _ _ _ _ => rfl) (fun c q1 q2 q3 q4 => a c (by omega) (by omega)) (fun s _ _ => eS s) (fun t _ _ => eT t) (by rw [m 0 (by decide) (by decide)]; exact ⟨rfl, rfl, rfl, rfl⟩) (by rw [a 0 (by omega) (by omega)]; exact ⟨rfl, rfl, rfl⟩) ?_ ?_ (fun i i0 i1 => ?_) (h.kiS (fun _ _ _ => rfl) (fun c _ _ => a c (by omega) (by omega)) (fun k _ _ => ⟨eK k, eL k⟩) (by rw [m 0 (by decide) (by decide)]) (eS 0)) (h.shS (fun _ _ _ => rfl) (fun c _ _ => a c (by omega) (by omega)) (fun s _ _ => eH s)) ?_ ⟨by rw [m 0 (by decide) (by decide)]; exact b4, fun i i0 i1 => ?_⟩ (oK0.sm (fun k _ _ => ⟨eK k, eL k⟩) (by rw [m 0 (by decide) (by decide)]) (by rw [m 0 (by decide) (by decide)])) (oH0.same (m 43 (by decide) (by decide)) (m 44 (by decide) (by decide))) (by rw [m 0 (by decide) (by decide)]; exact oR0)
      · unfold RCn; rw [a 0 (by omega) (by omega), a 1 (by omega) (by omega), m 0 (by decide) (by decide)]; exact h.cn
      · rw [m 1 (by decide) (by decide)]; exact h.tp.same (a 1 (by omega) (by omega)) (a 2 (by omega) (by omega))
      · by_cases e : i = b
        · subst e
          have u : ∀ j : Int, ¬ j = 4 → UA (UA A (qB i + 1) (M 9 i) x) (qB i) 4 (M 9 i + 1) (qB i) j = A (qB i) j := fun j z => by rw [UA_j z, UA_c (by omega)]
          obtain ⟨p1, p2, p3, p4, p5, p6⟩ := hO
          refine ⟨⟨p1, p2, p3, by rw [UA_eq]; omega, by rw [u 2 (by decide)]; exact p5, p6⟩, ⟨by rw [u 1 (by decide), m 7 (by decide) (by decide), e1], by rw [u 2 (by decide), m 8 (by decide) (by decide), e2], by rw [UA_eq, UA_eq]⟩, fun g g0 g1 => ?_, by rw [m 7 (by decide) (by decide)]; exact h0p⟩
          rw [UA_eq] at g1
          have z1 : UA (UA A (qB i + 1) (M 9 i) x) (qB i) 4 (M 9 i + 1) (qB i + 1) g = UA A (qB i + 1) (M 9 i) x (qB i + 1) g := UA_c (by omega)
          have z2 : UA (UA M 10 (10 * i + M 9 i) x) 9 i (M 9 i + 1) 10 (10 * i + g) = UA M 10 (10 * i + M 9 i) x 10 (10 * i + g) := UA_c (by decide)
          rw [z1, z2]
          by_cases e9 : g = M 9 i
          · rw [e9, UA_eq, UA_eq]
          · rw [UA_j e9, UA_j (by omega)]
            exact hf g g0 (by omega)
        · have qi := qB_d (s := i)
          refine (h.bo i0 i1).same (fun c q1 q2 => ⟨rfl, rfl, rfl, a c (by omega) (by omega)⟩) (eB i e)
      · rw [a 14 (by omega) (by omega), m 41 (by decide) (by decide)]; exact h.cu
      · rw [m 0 (by decide) (by decide)] at i1
        by_cases e : i = b
        · subst e
          exact ⟨by rw [m 7 (by decide) (by decide), m 0 (by decide) (by decide)]; exact hbo.1, by rw [m 8 (by decide) (by decide)]; exact hbo.2.1, by rw [UA_eq]; omega⟩
        · exact (oB0.2 i i0 i1).same (eB i e) (by rw [m 0 (by decide) (by decide)]; exact Int.le_refl _)
  · have c1 : ¬ (0 ≤ x ∧ x < M 8 b ∧ ¬ k_isF A (qB b) x 1) := fun z => q ⟨z.1, z.2.1, fun w => z.2.2 (hk.mpr w)⟩
    have c2 : ¬ ((0 ≤ b ∧ b ≤ M 0 8 - 1) ∧ (0 ≤ x ∧ x ≤ M 8 b - 1) ∧ ¬ m_isF M b x 1 = true) := fun z => q ⟨z.2.1.1, by omega, z.2.2⟩
    rw [if_neg c1, if_neg c2, if_neg (show ¬ ((0 ≤ x ∧ x < M 8 b ∧ ¬ k_isF A (qB b) x 1) ∧ ¬ 10 ≤ M 9 b) from fun z => c1 z.1), if_neg (show ¬ (((0 ≤ b ∧ b ≤ M 0 8 - 1) ∧ (0 ≤ x ∧ x ≤ M 8 b - 1) ∧ ¬ m_isF M b x 1 = true) ∧ ¬ M 9 b = 10) from fun z => c2 z.1)]
    exact ⟨rfl, h⟩
theorem V53_0 {d : Nat} (hd : 2 ≤ d) {Q : Option Value → xM → Prop} {W : gW} (hW : HW W) {A : Nat → Int → Int} {P : Nat → Int → Nat} (hR : RG A) (hT : Stat W P) (hG : GL W) {x1 x2 : Int} (rr : Rg x1 ∧ Rg x2) (h : (CtO P A) ∧ (((¬ (0 ≤ x1 ∧ x1 < A 0 11)) → Q (some (.int (iz (-2)))) (Wm W A P)) ∧ (¬ (¬ (0 ≤ x1 ∧ x1 < A 0 11)) → (OBt W P A (qB x1)) ∧ (gK W (qB x1) = 1) ∧ Q (some (.int (iz (k_mar_r A (qB x1) x2)))) (Wm W (k_mar_n A (qB x1) x2) P)))) : wpE (xT 53) (xev xT d) Q (0, [(0, .ref (lo W 0)), (1, .int (iz x1)), (2, .int (iz x2))], [], Wm W A P) := by
  refine p_ald (cc3 c53_0) rfl ?_
  refine p_ild (cc3 c53_1) rfl ?_
  obtain ⟨g1, h⟩ := h
  have he := S54 (Nat.le_trans (by decide) hd) hW hR hT hG rr.1 g1
  refine nul_c (c := ¬ (0 ≤ x1 ∧ x1 < A 0 11)) he (fun c he => ?_) (fun c he => ?_) <;> refine p_callV (cc3 c53_2) (Nat.le_of_ble_eq_true rfl) rfl rfl (Nat.le_of_ble_eq_true rfl) (wk_kd hW (by decide) (st_k hT 0 12 (by decide))) he ?_
  · have h := h.1 c
    refine p_astN (ls' := [(3, .null), (0, .ref (lo W 0)), (1, .int (iz x1)), (2, .int (iz x2))]) (cc3 c53_5) (by decide) rfl ?_
    refine p_aldN (cc3 c53_6) rfl ?_
    refine p_ifnN (cc3 c53_7) ?_
    refine i_push (n := (-2)) (cc3 c53_10) zl_m2 ?_
    refine p_goto (cc3 c53_12) ?_
    refine p_lc (ls' := []) c53_20 rfl rfl ?_
    exact p_ri (cct c53_20 rfl) trivial h
  · have h := h.2 c
    refine p_ast (ls' := [(3, .ref (lo W (qB x1))), (0, .ref (lo W 0)), (1, .int (iz x1)), (2, .int (iz x2))]) (cc3 c53_5) (by decide) rfl ?_
    refine p_ald (cc3 c53_6) rfl ?_
    refine p_ifnR (cc3 c53_7) ?_
    refine p_ald (cc3 c53_15) rfl ?_
    refine p_ild (cc3 c53_16) rfl ?_
    obtain ⟨g2, h⟩ := h
    obtain ⟨g3, h⟩ := h
    refine p_callV (cc3 c53_17) (Nat.le_of_ble_eq_true rfl) rfl rfl (Nat.le_of_ble_eq_true rfl) (wk_kd hW (by decide) g3) (S55 (Nat.le_trans (by decide) hd) hW hR hT hG rr.2 g2) ?_
    refine p_lc (ls' := []) c53_20 rfl rfl ?_
    exact p_ri (cct c53_20 rfl) trivial h
theorem S53 {d : Nat} (hd : 3 ≤ d) {W : gW} (hW : HW W) {A : Nat → Int → Int} {P : Nat → Int → Nat} (hR : RG A) (hT : Stat W P) (hG : GL W) {x1 x2 : Int} (rr : Rg x1 ∧ Rg x2) (hp : (RelA W P A)) : xev xT d 53 [.ref (lo W 0), .int (iz x1), .int (iz x2)] (Wm W A P) (some (.int (iz (if 0 ≤ x1 ∧ x1 < A 0 11 then k_mar_r A (qB x1) x2 else -2)))) (Wm W (if 0 ≤ x1 ∧ x1 < A 0 11 then k_mar_n A (qB x1) x2 else A) P) := by
  refine xev_i (D := 2) hd (Nat.le_of_ble_eq_true rfl) (fun d hd => V53_0 hd hW hR hT hG rr ?_)

  obtain ⟨hn1, hn2, hn3, hn4, hn5, hn6⟩ := hp.cn

  refine ⟨hp.cto, fun z => ⟨by rw [if_neg z], by rw [if_neg z]⟩, fun z => ?_⟩
  have q := Classical.not_not.mp z
  rw [if_pos q, if_pos q]
  have hb := hp.bo q.1 (by omega)
  exact ⟨hb.1, hb.1.1.1, rfl, rfl⟩
theorem cl_7 {W : gW} {P : Nat → Int → Nat} {A : Nat → Int → Int} (h : Sta W P A) {x1 x2 : Int} (rr : Rg x1 ∧ Rg x2) : Cll 53 142 [.int (iz x1), .int (iz x2)] W P A := by
  have hr := h.2.2.2.2
  have hn := hr.cn.2.1
  have hx := S53 (d := 190) (by decide) h.1 h.2.1 h.2.2.1 h.2.2.2.1 rr hr
  have hm := fun B => S142 (d := 190) (by decide) (h.ml2 h.2.2.1.1 hr.mod B) (rg_mo h.2.1) rr hr.ok.2.1
  by_cases q : 0 ≤ x1 ∧ x1 < A 0 11
  · rw [if_pos q, if_pos q] at hx
    obtain ⟨e1, e2⟩ := hr.mar (x := x2) q.1 (by omega)
    have hb := (hr.bo q.1 (by omega)).1
    rw [e1] at hx
    have qb := qB_d (s := x1)
    have b4 := hr.cto.1.2.1
    have a : ∀ c, 500 ≤ c → k_mar_n A (qB x1) x2 c = A c := fun c hc => by
      unfold k_mar_n
      split
      · exact (UA_n (by omega)).trans (UA_n (by omega))
      · rfl
    exact stp_m3 h hx a (hm _) (rg_mar h.2.1 rr.2 hb) (m_flaw_rg (rg_mo h.2.1) rr.2 hr.ok.2.1) e2
  · rw [if_neg q, if_neg q] at hx
    have e : m_flaw_n (mo A) x1 x2 = mo A := by unfold m_flaw_n; rw [if_neg (fun z => q (by omega))]
    have e9 : m_flaw_r (mo A) x1 x2 = -2 := by unfold m_flaw_r; rw [if_neg (fun z => q (by omega))]
    have hm := hm A
    rw [e, e9] at hm
    exact stp_ro h hx hm
