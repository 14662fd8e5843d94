theorem gdA : ∀ {a b : List Int} {i : Nat}, i < a.length → (a ++ b).getD i 0 = a.getD i 0
  | [], _, i, h => absurd h (Nat.not_lt_zero i)
  | _ :: _, _, 0, _ => rfl
  | _ :: a, b, i + 1, h => gdA (a := a) (b := b) (i := i) (Nat.lt_of_succ_lt_succ h)
theorem gdB : ∀ {a b : List Int} {i : Nat}, a.length ≤ i → (a ++ b).getD i 0 = b.getD (i - a.length) 0
  | [], _, _, _ => rfl
  | _ :: a, b, 0, h => absurd h (Nat.not_succ_le_zero _)
  | _ :: a, b, i + 1, h => by
    have e : i + 1 - (a.length + 1) = i - a.length := by omega
    show (a ++ b).getD i 0 = b.getD (i + 1 - (a.length + 1)) 0
    rw [e]; exact gdB (a := a) (b := b) (i := i) (Nat.le_of_succ_le_succ h)
def k_fail (A : Nat → Int → Int) : Nat → Int → Int := if A 6 8 = -1 then UA (UA A 6 8 (A 6 6)) 6 4 402 else UA A 6 4 402
theorem rg_fail {A : Nat → Int → Int} (h : RG A) : RG (k_fail A) := by unfold k_fail; split <;> first | exact rg_UA (rg_UA h (h _ _)) (by decide) | exact rg_UA h (by decide)
def k_emit (A : Nat → Int → Int) (w : Int) : Nat → Int → Int := if A 6 1 < 160 then UA (UA A 7 (A 6 1) w) 6 1 (A 6 1 + 1) else A
theorem rg_emit {A : Nat → Int → Int} (h : RG A) {w : Int} (hw : Rg w) (h0 : 0 ≤ A 6 1) : RG (k_emit A w) := by
  unfold k_emit
  split
  · exact rg_UA (rg_UA h hw) ⟨by omega, by omega⟩
  · exact h
def k_may (A : Nat → Int → Int) (w : Int) : Nat → Int → Int := if 5 ≤ w then k_fail A else A
theorem rg_may {A : Nat → Int → Int} (h : RG A) {w : Int} : RG (k_may A w) := by unfold k_may; split; exact rg_fail h; exact h
theorem fo_fail {A : Nat → Int → Int} : Fo 6 [7] [1, 4, 5, 6, 7, 8] A (k_fail A) := by unfold k_fail; split <;> first | exact (Fo.rf.fld (by decide)).fld (by decide) | exact Fo.rf.fld (by decide)
theorem fo_emit {A : Nat → Int → Int} {w : Int} : Fo 6 [7] [1] A (k_emit A w) := by unfold k_emit; split <;> first | exact (Fo.rf.row (by decide) (by decide)).fld (by decide) | exact Fo.rf
/-- the reader's state: a token from p on, or a fault -/
def ExI (A : Nat → Int → Int) (P : Nat → Int → Nat) (t : Int → Int) (p : Int) : Prop := TpR A t ∧ StrA A ∧ P 6 3 = 1 + 1 ∧ (0 ≤ A 6 1 ∧ A 6 1 ≤ 160) ∧ ((A 6 8 = -1 ∧ KCur A t (A 1 1) p ∧ (0 ≤ p ∧ p ≤ A 1 1) ∧ A 6 1 ≤ p) ∨ (0 ≤ A 6 8 ∧ A 6 4 = 402))
def ExO (f : Nat) (l op : Int) : Prop := (0 ≤ l ∧ l ≤ 5) ∧ (0 ≤ op ∧ op ≤ 5) ∧ (5 - op) * 7 + 6 - l ≤ f
def CdI (A : Nat → Int → Int) (k : Int) (L : List Int) : Prop := ∀ i : Nat, i < L.length → A 7 (k + i) = L.getD i 0
def ExQ (t : Int → Int) (r : Rr) (A A' : Nat → Int → Int) : Prop := Fo 6 [7] [1, 4, 5, 6, 7, 8] A A' ∧ (0 ≤ A' 6 1 ∧ A' 6 1 ≤ 160) ∧ (A 6 8 = -1 → (r.1 = true → A' 6 8 = -1 ∧ KCur A' t (A 1 1) r.2.1 ∧ A' 6 1 = A 6 1 + (r.2.2.length : Int) ∧ (∀ i : Int, i < A 6 1 → A' 7 i = A 7 i) ∧ CdI A' (A 6 1) r.2.2) ∧ (¬ r.1 = true → A' 6 8 = tkB t (A 1 1) r.2.1 ∧ A' 6 4 = 402)) ∧ (0 ≤ A 6 8 → A' 6 8 = A 6 8 ∧ A' 6 4 = 402)
theorem KCur.to {A A' : Nat → Int → Int} {t : Int → Int} {n p : Int} (h : KCur A t n p) (h1 : A' 6 4 = A 6 4) (h2 : A' 6 5 = A 6 5) (h3 : A' 6 6 = A 6 6) (h4 : A' 6 7 = A 6 7) : KCur A' t n p := ⟨h3.trans h.1, h1.trans h.2.1, fun q => h4.trans (h.2.2.1 q), fun q => h2.trans (h.2.2.2 q)⟩
theorem Fo.c1 {rs : List Nat} {fs : List Int} {A A' : Nat → Int → Int} (h : Fo 6 rs fs A A') (h1 : 1 ∉ rs) (h2 : 2 ∉ rs) (h3 : ∀ c ∈ rs, c < 500) : A' 1 = A 1 ∧ A' 2 = A 2 ∧ (∀ t, TpR A t → TpR A' t) ∧ (StrA A → StrA A') := by
  have e1 := h.1 1 h1 (by decide)
  have e2 := h.1 2 h2 (by decide)
  refine ⟨e1, e2, fun t ht => ⟨by rw [e1]; exact ht.1, ht.2.1, by rw [e1, e2]; exact ht.2.2⟩, fun hs => hs.c (fun c hc => h.1 c (fun q => by have := h3 c q; omega) (by omega))⟩
theorem may_e {A : Nat → Int → Int} {x : Int} (h : x < 5) : k_may A x = A := by unfold k_may; rw [if_neg (by omega)]
theorem may_f {A : Nat → Int → Int} {x : Int} (h : ¬ x < 5) : k_may A x = k_fail A := by unfold k_may; rw [if_pos (by omega)]
/-- behind a fault -/
theorem ExQ.bad {A : Nat → Int → Int} {P : Nat → Int → Nat} {t : Int → Int} {p : Int} (h : ExI A P t p) (L : List Int) : ExQ t (false, p, L) A (k_fail A) := by
  have e1 : (k_fail A) 6 1 = A 6 1 := by unfold k_fail; split <;> rfl
  have e4 : (k_fail A) 6 4 = 402 := by unfold k_fail; split <;> exact UA_eq
  refine ⟨fo_fail, by rw [e1]; exact h.2.2.2.1, fun c => ⟨fun q => ffq q, fun _ => ⟨?_, e4⟩⟩, fun c => ⟨?_, e4⟩⟩
  · rcases h.2.2.2.2 with q | q
    · unfold k_fail
      rw [if_pos c, UA_j (by decide), UA_eq]
      exact q.2.1.1
    · omega
  · unfold k_fail
    rw [if_neg (by omega), UA_j (by decide)]
/-- a state with a token that isn't WRONG is a good one -/
theorem ExI.good {A : Nat → Int → Int} {P : Nat → Int → Nat} {t : Int → Int} {p : Int} (h : ExI A P t p) (hc : ¬ A 6 4 = 402) : A 6 8 = -1 ∧ KCur A t (A 1 1) p ∧ (0 ≤ p ∧ p ≤ A 1 1) ∧ A 6 1 ≤ p ∧ A 6 4 = tkC t (A 1 1) p := by
  rcases h.2.2.2.2 with q | q
  · exact ⟨q.1, q.2.1, q.2.2.1, q.2.2.2, q.2.1.2.1⟩
  · exact absurd q.2 hc
/-- behind next -/
theorem ExI.nx {A B A1 : Nat → Int → Int} {P : Nat → Int → Nat} {t : Int → Int} {p : Int} (h : ExI A P t p) (hc : ¬ A 6 4 = 402 ∧ ¬ A 6 4 = 401) (hF : Fo 6 [7] [1] A B) (hk : B 6 1 ≤ A 6 1 + 1 ∧ 0 ≤ B 6 1) (h1 : (¬ B 6 8 = -1 → A1 = B) ∧ (B 6 8 = -1 → Fo 6 [] [4, 5, 6, 7] B A1 ∧ KCur A1 t (B 1 1) (B 6 7))) : ExI A1 P t (tkE t (A 1 1) p) ∧ A1 6 8 = -1 ∧ A1 6 1 = B 6 1 ∧ A1 1 1 = A 1 1 ∧ A1 7 = B 7 ∧ Fo 6 [7] [1, 4, 5, 6, 7, 8] A A1 ∧ (0 ≤ p ∧ p < tkE t (A 1 1) p ∧ tkE t (A 1 1) p ≤ A 1 1) ∧ A1 6 1 ≤ tkE t (A 1 1) p ∧ A 6 1 ≤ p := by
  obtain ⟨g1, g2, g3, g4, g5⟩ := h.good hc.1
  have e8 : B 6 8 = -1 := (hF.2 8 (by decide)).trans g1
  obtain ⟨f1, f2⟩ := h1.2 e8
  have c401 : ¬ tkC t (A 1 1) p = 401 := by rw [← g5]; exact hc.2
  have ta := tok_adv (t := t) g3.2 c401
  have e7 : B 6 7 = tkE t (A 1 1) p := (hF.2 7 (by decide)).trans (g2.2.2.1 c401)
  obtain ⟨x1, x2, x3, x4⟩ := hF.c1 (by decide) (by decide) (by decide)
  obtain ⟨y1, y2, y3, y4⟩ := f1.c1 (by decide) (by decide) (by decide)
  have e1 : A1 6 1 = B 6 1 := f1.2 1 (by decide)
  have e11 : A1 1 1 = A 1 1 := by rw [y1, x1]
  have hn := h.1.1
  rw [e7, x1] at f2
  refine ⟨⟨y3 t (x3 t h.1), y4 (x4 h.2.1), h.2.2.1, by omega, Or.inl ⟨(f1.2 8 (by decide)).trans e8, by rw [e11]; exact f2, by rw [e11]; omega, by omega⟩⟩, (f1.2 8 (by decide)).trans e8, e1, e11, f1.1 7 (by decide) (by decide), (hF.mono (by simp) (fun j h => by revert h; simp; omega)).tr (f1.mono (by simp) (fun j h => by revert h; simp; omega)), by omega, by omega, g4⟩
/-- a sign behind a part -/
theorem ExQ.app {A A1 A2 : Nat → Int → Int} {t : Int → Int} {r : Rr} {L0 : List Int} {w p1 : Int} (hn : A 1 1 ≤ 160) (e8 : A 6 8 = -1 ∧ A1 6 8 = -1) (e11 : A1 1 1 = A 1 1) (hF : Fo 6 [7] [1, 4, 5, 6, 7, 8] A A1) (h0 : 0 ≤ A 6 1) (e1 : A1 6 1 = A 6 1 + (L0.length : Int)) (hk : A1 6 1 < p1) (hc : (∀ i : Int, i < A 6 1 → A1 7 i = A 7 i) ∧ CdI A1 (A 6 1) L0) (hr : RdOK (A 1 1) r p1) (h : ExQ t r A1 A2) :
    Fo 6 [7] [1, 4, 5, 6, 7, 8] A (k_emit A2 w) ∧ (0 ≤ (k_emit A2 w) 6 1 ∧ (k_emit A2 w) 6 1 ≤ 160) ∧ 0 ≤ A2 6 1 ∧ (r.1 = true → (k_emit A2 w) 6 8 = -1 ∧ KCur (k_emit A2 w) t (A 1 1) r.2.1 ∧ (k_emit A2 w) 6 1 = A 6 1 + ((L0 ++ r.2.2 ++ [w]).length : Int) ∧ (∀ i : Int, i < A 6 1 → (k_emit A2 w) 7 i = A 7 i) ∧ CdI (k_emit A2 w) (A 6 1) (L0 ++ r.2.2 ++ [w]) ∧ (k_emit A2 w) 6 1 ≤ r.2.1 ∧ p1 < r.2.1 ∧ r.2.1 ≤ A 1 1) ∧ (¬ r.1 = true → (k_emit A2 w) 6 8 = tkB t (A 1 1) r.2.1 ∧ (k_emit A2 w) 6 4 = 402 ∧ p1 ≤ r.2.1 ∧ r.2.1 ≤ A 1 1) := by
  obtain ⟨q1, q2, q3, -⟩ := h
  have q4 := q3 e8.2
  rw [e11] at q4
  have k4 : ∀ j : Int, ¬ j = 1 → (k_emit A2 w) 6 j = A2 6 j := fun j hj => by unfold k_emit; split <;> first | rfl | (rw [UA_j hj, UA_c (by decide)])
  have k1 : 0 ≤ (k_emit A2 w) 6 1 ∧ (k_emit A2 w) 6 1 ≤ 160 := by
    unfold k_emit
    split
    · rw [UA_eq]; omega
    · omega
  refine ⟨(hF.tr q1).tr (fo_emit.mono (by simp) (fun j h => by revert h; simp; omega)), k1, q2.1, fun c => ?_, fun c => ?_⟩
  · obtain ⟨z1, z2, z3, z4, z5⟩ := q4.1 c
    obtain ⟨y1, y2, y3, -⟩ := hr.1 c
    have hlt : A2 6 1 < 160 := by omega
    have ke : k_emit A2 w = UA (UA A2 7 (A2 6 1) w) 6 1 (A2 6 1 + 1) := by unfold k_emit; rw [if_pos hlt]
    have e61 : (k_emit A2 w) 6 1 = A2 6 1 + 1 := by rw [ke]; exact UA_eq
    have e7 : ∀ i : Int, ¬ i = A2 6 1 → (k_emit A2 w) 7 i = A2 7 i := fun i hi => by rw [ke, UA_c (by decide), UA_j hi]
    have e7' : (k_emit A2 w) 7 (A2 6 1) = w := by rw [ke, UA_c (by decide), UA_eq]
    have hlen : ((L0 ++ r.2.2 ++ [w]).length : Int) = (L0.length : Int) + (r.2.2.length : Int) + 1 := by simp only [List.length_append, List.length_cons, List.length_nil]; omega
    refine ⟨(k4 8 (by decide)).trans z1, z2.to (k4 4 (by decide)) (k4 5 (by decide)) (k4 6 (by decide)) (k4 7 (by decide)), by rw [e61, hlen]; omega, fun i hi => ?_, fun i hi => ?_, by omega, y1, y2⟩
    · rw [e7 i (by omega), z4 i (by omega), hc.1 i hi]
    · by_cases c1 : i < L0.length
      · rw [e7 _ (by omega), z4 _ (by omega), hc.2 i c1, gdA (by simp only [List.length_append]; omega), gdA c1]
      · by_cases c2 : i < L0.length + r.2.2.length
        · have z6 := z5 (i - L0.length) (by omega)
          rw [show A1 6 1 + ((i - L0.length : Nat) : Int) = A 6 1 + (i : Int) by omega] at z6
          rw [e7 _ (by omega), z6, gdA (by simp only [List.length_append]; omega), gdB (by omega)]
        · have hi' : i < L0.length + r.2.2.length + 1 := by simp only [List.length_append, List.length_cons, List.length_nil] at hi; omega
          rw [show A 6 1 + (i : Int) = A2 6 1 by omega, e7', gdB (by simp only [List.length_append]; omega)]
          have : i - (L0 ++ r.2.2).length = 0 := by simp only [List.length_append]; omega
          rw [this]; rfl
  · obtain ⟨z1, z2⟩ := q4.2 c
    have y := hr.2 c
    exact ⟨(k4 8 (by decide)).trans z1, (k4 4 (by decide)).trans z2, y.1, y.2⟩
theorem V28_0 {d : Nat} (hd : 0 ≤ d) {Q : Option Value → xM → Prop} {W : gW} (hW : HW W) {A : Nat → Int → Int} {P : Nat → Int → Nat} (hR : RG A) (hT : Stat W P) (hG : GL W) (h : ((((A 6 8) = (-1)) → Q none (Wm W (UA (UA A 6 8 (A 6 6)) 6 4 402) P)) ∧ (¬ ((A 6 8) = (-1)) → Q none (Wm W (UA A 6 4 402) P)))) : wpE (xT 28) (xev xT d) Q (0, [(0, .ref (lo W 6))], [], Wm W A P) := by
  refine p_ald (cc3 c28_0) rfl ?_
  refine w_geti hW (v := A 6 8) (cc3 c28_1) (st_k hT 6 11 (by decide)) (ji := 8) rfl rfl ?_
  refine i_push (n := (-1)) (cc3 c28_4) zl_m1 ?_
  refine i_icmp (c' := (A 6 8) = (-1)) (cc3 c28_5) (iz_inj (hR 6 8) (by decide : Rg (-1 : Int))) (fun c => ?_) (fun c => ?_)
  · have h := h.1 c
    refine p_ald (cc3 c28_8) rfl ?_
    refine p_ald (cc3 c28_9) rfl ?_
    refine w_geti hW (v := A 6 6) (cc3 c28_10) (st_k hT 6 11 (by decide)) (ji := 6) rfl rfl ?_
    refine id (α := Rg (A 6 6) → _) (fun _ => ?_) (hR 6 6); refine w_puti hW (cc3 c28_13) (st_k hT 6 11 (by decide)) (ji := 8) rfl ?_
    refine p_ald (cct c28_16 rfl) rfl ?_
    refine i_push (n := 402) (cc3 c28_17) zl_402 ?_
    refine id (α := Rg 402 → _) (fun _ => ?_) (by decide : Rg (402 : Int)); refine w_puti hW (cc3 c28_20) (st_k hT 6 11 (by decide)) (ji := 4) rfl ?_
    exact p_rv (cc3 c28_23) h
  · have h := h.2 c
    refine p_ald (cct c28_16 rfl) rfl ?_
    refine i_push (n := 402) (cc3 c28_17) zl_402 ?_
    refine id (α := Rg 402 → _) (fun _ => ?_) (by decide : Rg (402 : Int)); refine w_puti hW (cc3 c28_20) (st_k hT 6 11 (by decide)) (ji := 4) rfl ?_
    exact p_rv (cc3 c28_23) h
theorem S28 {d : Nat} (hd : 1 ≤ d) {W : gW} (hW : HW W) {A : Nat → Int → Int} {P : Nat → Int → Nat} (hR : RG A) (hT : Stat W P) (hG : GL W) : xev xT d 28 [.ref (lo W 6)] (Wm W A P) none (Wm W (k_fail A) P) := by
  refine xev_i (D := 0) hd (Nat.le_of_ble_eq_true rfl) (fun d hd => V28_0 hd hW hR hT hG ?_)

  exact ⟨fun c => ⟨rfl, by unfold k_fail; rw [if_pos c]⟩, fun c => ⟨rfl, by unfold k_fail; rw [if_neg c]⟩⟩
theorem V31_0 {d : Nat} (hd : 0 ≤ d) {Q : Option Value → xM → Prop} {W : gW} (hW : HW W) {A : Nat → Int → Int} {P : Nat → Int → Nat} (hR : RG A) (hT : Stat W P) (hG : GL W) {x1 : Int} (rr : Rg x1) (h : (((160 ≤ (A 6 1)) → Q none (Wm W A P)) ∧ (¬ (160 ≤ (A 6 1)) → (0 ≤ (A 6 1) ∧ (A 6 1) < 160) ∧ (Rg ((A 6 1) + 1)) ∧ Q none (Wm W (UA (UA A 7 (A 6 1) x1) 6 1 ((A 6 1) + 1)) P)))) : wpE (xT 31) (xev xT d) Q (0, [(0, .ref (lo W 6)), (1, .int (iz x1))], [], Wm W A P) := by
  refine p_ald (cc3 c31_0) rfl ?_
  refine w_geti hW (v := A 6 1) (cc3 c31_1) (st_k hT 6 11 (by decide)) (ji := 1) rfl rfl ?_
  refine i_push (n := 160) (cc3 c31_4) zl_160 ?_
  refine i_icmp (c' := 160 ≤ (A 6 1)) (cc3 c31_7) (iz_le (by decide : Rg (160 : Int)) (hR 6 1)) (fun c => ?_) (fun c => ?_)
  · have h := h.1 c
    refine p_lc (ls' := []) c31_30 rfl rfl ?_
    exact p_rv (cct c31_30 rfl) h
  · have h := h.2 c
    refine p_ald (cc3 c31_10) rfl ?_
    refine w_getp hW hT.1 (b := 7) (cc3 c31_11) (st_k hT 6 11 (by decide)) (ji := 0) rfl (st_p hT 6 0 7 (by decide)) ?_
    refine p_ald (cc3 c31_14) rfl ?_
    refine w_geti hW (v := A 6 1) (cc3 c31_15) (st_k hT 6 11 (by decide)) (ji := 1) rfl rfl ?_
    refine p_ild (cc3 c31_18) rfl ?_
    obtain ⟨g1, h⟩ := h
    refine id (α := Rg x1 → _) (fun _ => ?_) rr; refine w_asti hW (cc3 c31_19) (st_k hT 7 20 (by decide)) (st_i hT 7 160 (by decide) g1) rfl ?_
    refine p_ald (cc3 c31_20) rfl ?_
    refine p_dup (cc3 c31_21) rfl ?_
    refine w_geti hW (v := A 6 1) (cc3 c31_22) (st_k hT 6 11 (by decide)) (ji := 1) rfl (by first | rfl | exact UA_eq | exact UA_j (by decide) | exact UA_c (by decide)) ?_
    refine i_push (n := 1) (cc3 c31_25) zl_1 ?_
    obtain ⟨g2, h⟩ := h
    refine (fun _ : Rg ((A 6 1) + 1) => i_add (cc3 c31_26) ?_) g2
    refine id (α := Rg ((A 6 1) + 1) → _) (fun _ => ?_) g2; refine w_puti hW (cc3 c31_27) (st_k hT 6 11 (by decide)) (ji := 1) rfl ?_
    refine p_lc (ls' := []) c31_30 rfl rfl ?_
    exact p_rv (cct c31_30 rfl) h
theorem S31 {d : Nat} (hd : 1 ≤ d) {W : gW} (hW : HW W) {A : Nat → Int → Int} {P : Nat → Int → Nat} (hR : RG A) (hT : Stat W P) (hG : GL W) {x1 : Int} (rr : Rg x1) (hp : (0 ≤ A 6 1)) : xev xT d 31 [.ref (lo W 6), .int (iz x1)] (Wm W A P) none (Wm W (k_emit A x1) P) := by
  refine xev_i (D := 0) hd (Nat.le_of_ble_eq_true rfl) (fun d hd => V31_0 hd hW hR hT hG rr ?_)

  exact ⟨fun c => ⟨rfl, by unfold k_emit; rw [if_neg (by omega)]⟩, fun c => ⟨⟨hp, by omega⟩, ⟨by omega, by omega⟩, rfl, by unfold k_emit; rw [if_pos (by omega)]⟩⟩
theorem V32_0 {d : Nat} (hd : 1 ≤ d) {Q : Option Value → xM → Prop} {W : gW} (hW : HW W) {A : Nat → Int → Int} {P : Nat → Int → Nat} (hR : RG A) (hT : Stat W P) (hG : GL W) {x1 : Int} (rr : Rg x1) (h : (((x1 < 5) → (((5 ≤ x1) → Q (some (.int (iz 0))) (Wm W A P)) ∧ (¬ (5 ≤ x1) → Q (some (.int (iz 1))) (Wm W A P)))) ∧ (¬ (x1 < 5) → (((5 ≤ x1) → Q (some (.int (iz 0))) (Wm W (k_fail A) P)) ∧ (¬ (5 ≤ x1) → Q (some (.int (iz 1))) (Wm W (k_fail A) P)))))) : wpE (xT 32) (xev xT d) Q (0, [(0, .ref (lo W 6)), (1, .int (iz x1))], [], Wm W A P) := by
  refine p_ild (cc3 c32_0) rfl ?_
  refine i_push (n := 5) (cc3 c32_1) zl_5 ?_
  refine i_icmp (c' := x1 < 5) (cc3 c32_2) (iz_lt rr (by decide : Rg (5 : Int))) (fun c => ?_) (fun c => ?_)
  · have h := h.1 c
    refine p_lc (ls' := [(1, .int (iz x1))]) c32_9 rfl rfl ?_
    refine p_ild (cct c32_9 rfl) rfl ?_
    refine i_push (n := 5) (cc3 c32_10) zl_5 ?_
    refine i_icmp (c' := 5 ≤ x1) (cc3 c32_11) (iz_le (by decide : Rg (5 : Int)) rr) (fun c => ?_) (fun c => ?_)
    · have h := h.1 c
      refine i_push (n := 0) (cc3 c32_18) zl_0 ?_
      refine p_lc (ls' := []) c32_19 rfl rfl ?_
      exact i_ri (cct c32_19 rfl) (by decide) h
    · have h := h.2 c
      refine i_push (n := 1) (cc3 c32_14) zl_1 ?_
      refine p_goto (cc3 c32_15) ?_
      refine p_lc (ls' := []) c32_19 rfl rfl ?_
      exact i_ri (cct c32_19 rfl) (by decide) h
  · have h := h.2 c
    refine p_ald (cc3 c32_5) rfl ?_
    refine p_callV (cc3 c32_6) (Nat.le_of_ble_eq_true rfl) rfl rfl (Nat.le_of_ble_eq_true rfl) (wk_kd hW (by decide) (st_k hT 6 11 (by decide))) (S28 (Nat.le_trans (by decide) hd) hW hR hT hG) ?_
    refine p_lc (ls' := [(1, .int (iz x1))]) c32_9 rfl rfl ?_
    refine p_ild (cct c32_9 rfl) rfl ?_
    refine i_push (n := 5) (cc3 c32_10) zl_5 ?_
    refine i_icmp (c' := 5 ≤ x1) (cc3 c32_11) (iz_le (by decide : Rg (5 : Int)) rr) (fun c => ?_) (fun c => ?_)
    · have h := h.1 c
      refine i_push (n := 0) (cc3 c32_18) zl_0 ?_
      refine p_lc (ls' := []) c32_19 rfl rfl ?_
      exact i_ri (cct c32_19 rfl) (by decide) h
    · have h := h.2 c
      refine i_push (n := 1) (cc3 c32_14) zl_1 ?_
      refine p_goto (cc3 c32_15) ?_
      refine p_lc (ls' := []) c32_19 rfl rfl ?_
      exact i_ri (cct c32_19 rfl) (by decide) h
theorem S32 {d : Nat} (hd : 2 ≤ d) {W : gW} (hW : HW W) {A : Nat → Int → Int} {P : Nat → Int → Nat} (hR : RG A) (hT : Stat W P) (hG : GL W) {x1 : Int} (rr : Rg x1) : xev xT d 32 [.ref (lo W 6), .int (iz x1)] (Wm W A P) (some (.int (iz (bI (x1 < 5))))) (Wm W (k_may A x1) P) := by
  refine xev_i (D := 1) hd (Nat.le_of_ble_eq_true rfl) (fun d hd => V32_0 hd hW hR hT hG rr ?_)

  refine ⟨fun c => ⟨fun c2 => by omega, fun _ => ⟨congrArg (fun z => some (Value.int (iz z))) (bI_t c).symm, by rw [may_e c]⟩⟩, fun c => ⟨fun _ => ⟨congrArg (fun z => some (Value.int (iz z))) (bI_f c).symm, by rw [may_f c]⟩, fun c2 => by omega⟩⟩
theorem V27_0 {d : Nat} (hd : 7 ≤ d) {Q : Option Value → xM → Prop} {t : Int → Int} {W : gW} (hW : HW W) {A : Nat → Int → Int} {P : Nat → Int → Nat} (hR : RG A) (hT : Stat W P) (hG : GL W) {x1 : Int} (rr : Rg x1) (h : ((((A 6 4) = x1) → (((x1 = 401) → Q none (Wm W A P)) ∧ (¬ (x1 = 401) → (TpR A t) ∧ (StrA A) ∧ (P 6 3 = 1 + 1) ∧ (A 6 8 = -1 → 0 ≤ A 6 7 ∧ A 6 7 ≤ A 1 1) ∧ (∀ (A_1 : Nat → Int → Int), RG A_1 → ((¬ A 6 8 = -1 → A_1 = A) ∧ (A 6 8 = -1 → Fo 6 [] [4, 5, 6, 7] A A_1 ∧ KCur A_1 t (A 1 1) (A 6 7))) → Q none (Wm W A_1 P))))) ∧ (¬ ((A 6 4) = x1) → Q none (Wm W (k_fail A) P)))) : wpE (xT 27) (xev xT d) Q (0, [(0, .ref (lo W 6)), (1, .int (iz x1))], [], Wm W A P) := by
  refine p_ald (cc3 c27_0) rfl ?_
  refine w_geti hW (v := A 6 4) (cc3 c27_1) (st_k hT 6 11 (by decide)) (ji := 4) rfl rfl ?_
  refine p_ild (cc3 c27_4) rfl ?_
  refine i_icmp (c' := (A 6 4) = x1) (cc3 c27_5) (iz_inj (hR 6 4) rr) (fun c => ?_) (fun c => ?_)
  · have h := h.1 c
    refine p_ild (cc3 c27_15) rfl ?_
    refine i_push (n := 401) (cc3 c27_16) zl_401 ?_
    refine i_icmp (c' := x1 = 401) (cc3 c27_19) (iz_inj rr (by decide : Rg (401 : Int))) (fun c => ?_) (fun c => ?_)
    · have h := h.1 c
      refine p_lc (ls' := []) c27_26 rfl rfl ?_
      exact p_rv (cct c27_26 rfl) h
    · have h := h.2 c
      refine p_ald (cc3 c27_22) rfl ?_
      obtain ⟨g1, h⟩ := h
      obtain ⟨g2, h⟩ := h
      obtain ⟨g3, h⟩ := h
      obtain ⟨g4, h⟩ := h
      obtain ⟨A_1, he, hR_1, hp_1⟩ := S17 (A := A) (P := P) (Nat.le_trans (by decide) hd) hW hR hT hG t ⟨g1, g2, g3, g4⟩
      have h := h A_1 hR_1 hp_1
      refine p_callV (cc3 c27_23) (Nat.le_of_ble_eq_true rfl) rfl rfl (Nat.le_of_ble_eq_true rfl) (wk_kd hW (by decide) (st_k hT 6 11 (by decide))) he ?_
      refine p_lc (ls' := []) c27_26 rfl rfl ?_
      exact p_rv (cct c27_26 rfl) h
  · have h := h.2 c
    refine p_ald (cc3 c27_8) rfl ?_
    refine p_callV (cc3 c27_9) (Nat.le_of_ble_eq_true rfl) rfl rfl (Nat.le_of_ble_eq_true rfl) (wk_kd hW (by decide) (st_k hT 6 11 (by decide))) (S28 (Nat.le_trans (by decide) hd) hW hR hT hG) ?_
    refine p_goto (cc3 c27_12) ?_
    refine p_lc (ls' := []) c27_26 rfl rfl ?_
    exact p_rv (cct c27_26 rfl) h
theorem S27 {d : Nat} (hd : 8 ≤ d) {W : gW} (hW : HW W) {A : Nat → Int → Int} {P : Nat → Int → Nat} (hR : RG A) (hT : Stat W P) (hG : GL W) (t : Int → Int) {x1 : Int} (rr : Rg x1) (hp : (TpR A t) ∧ (StrA A) ∧ (P 6 3 = 1 + 1) ∧ (A 6 8 = -1 → ¬ A 6 4 = 401 → 0 ≤ A 6 7 ∧ A 6 7 ≤ A 1 1)) : ∃ (A' : Nat → Int → Int), xev xT d 27 [.ref (lo W 6), .int (iz x1)] (Wm W A P) none (Wm W A' P) ∧ RG A' ∧ ((A 6 4 = x1 → ((x1 : Int) = 401 → A' = A) ∧ (¬ (x1 : Int) = 401 → (¬ A 6 8 = -1 → A' = A) ∧ (A 6 8 = -1 → Fo 6 [] [4, 5, 6, 7] A A' ∧ KCur A' t (A 1 1) (A 6 7)))) ∧ (¬ A 6 4 = x1 → A' = k_fail A)) := by
  refine xev_g (i := 27) (as := [.ref (lo W 6), .int (iz x1)]) (σ := Wm W A P) (Q := fun r_ σ_ => ∃ (A' : Nat → Int → Int), r_ = none ∧ σ_ = Wm W A' P ∧ RG A' ∧ ((A 6 4 = x1 → ((x1 : Int) = 401 → A' = A) ∧ (¬ (x1 : Int) = 401 → (¬ A 6 8 = -1 → A' = A) ∧ (A 6 8 = -1 → Fo 6 [] [4, 5, 6, 7] A A' ∧ KCur A' t (A 1 1) (A 6 7)))) ∧ (¬ A 6 4 = x1 → A' = k_fail A))) (D := 7) hd (Nat.le_of_ble_eq_true rfl) (fun r_ σ_ he hq => ?_) (fun d hd => V27_0 hd hW hR hT hG (t := t) rr ?_)
  · obtain ⟨A', rfl, rfl, hq⟩ := hq
    exact ⟨A', he, hq⟩

  obtain ⟨p1, p2, p3, p4⟩ := hp
  refine ⟨fun c => ⟨fun c2 => ⟨A, rfl, rfl, hR, fun _ => ⟨fun _ => rfl, fun q => absurd c2 q⟩, fun q => absurd c q⟩, fun c2 => ⟨p1, p2, p3, fun q => p4 q (by omega), fun A1 hR1 h1 => ⟨A1, rfl, rfl, hR1, fun _ => ⟨fun q => absurd q c2, fun _ => h1⟩, fun q => absurd c q⟩⟩⟩, fun c => ⟨_, rfl, rfl, rg_fail hR, fun q => absurd q c, fun _ => rfl⟩⟩
theorem V29_0 {f d : Nat} (hd : 2 * f + 10 ≤ d) {Q : Option Value → xM → Prop} {t : Int → Int} {p : Int} (S29 : ∀ {d : Nat} (hd : 2 * f + 9 ≤ d) {W : gW} (hW : HW W) {A : Nat → Int → Int} {P : Nat → Int → Nat} (hR : RG A) (hT : Stat W P) (hG : GL W) (t : Int → Int) (p : Int) {x1 x2 : Int} (rr : Rg x1 ∧ Rg x2) (hp : (ExI A P t p) ∧ (ExO f x1 x2)), ∃ (A' : Nat → Int → Int), xev xT d 29 [.ref (lo W 6), .int (iz x1), .int (iz x2)] (Wm W A P) none (Wm W A' P) ∧ RG A' ∧ (ExQ t (rdE t (A 1 1) f x1 x2 p) A A')) (S30 : ∀ {d : Nat} (hd : 2 * (f + 1) + 8 ≤ d) {W : gW} (hW : HW W) {A : Nat → Int → Int} {P : Nat → Int → Nat} (hR : RG A) (hT : Stat W P) (hG : GL W) (t : Int → Int) (p : Int) {x1 : Int} (rr : Rg x1) (hp : (ExI A P t p) ∧ (ExO (f + 1) 5 x1)), ∃ (A' : Nat → Int → Int), xev xT d 30 [.ref (lo W 6), .int (iz x1)] (Wm W A P) none (Wm W A' P) ∧ RG A' ∧ (ExQ t (rdE t (A 1 1) (f + 1) 5 x1 p) A A')) {W : gW} (hW : HW W) {A : Nat → Int → Int} {P : Nat → Int → Nat} (hR : RG A) (hT : Stat W P) (hG : GL W) {x1 x2 : Int} (rr : Rg x1 ∧ Rg x2) (h : (((x1 ≤ 4) → (((x1 = 2) → ((((A 6 4) = 204) → ((¬ (x2 < 5) → Q none (Wm W (k_may A x2) P)) ∧ ((x2 < 5) → (TpR (k_may A x2) t) ∧ (StrA (k_may A x2)) ∧ (P 6 3 = 1 + 1) ∧ ((k_may A x2) 6 8 = -1 → 0 ≤ (k_may A x2) 6 7 ∧ (k_may A x2) 6 7 ≤ (k_may A x2) 1 1) ∧ (∀ (A_1 : Nat → Int → Int), RG A_1 → ((¬ (k_may A x2) 6 8 = -1 → A_1 = (k_may A x2)) ∧ ((k_may A x2) 6 8 = -1 → Fo 6 [] [4, 5, 6, 7] (k_may A x2) A_1 ∧ KCur A_1 t ((k_may A x2) 1 1) ((k_may A x2) 6 7))) → (Rg (x2 + 1)) ∧ (ExI A_1 P t (tkE t (A 1 1) p)) ∧ (ExO f (2 : Int) (x2 + 1)) ∧ (∀ (A_2 : Nat → Int → Int), RG A_2 → (ExQ t (rdE t (A_1 1 1) f 2 (x2 + 1) (tkE t (A 1 1) p)) A_1 A_2) → (0 ≤ A_2 6 1) ∧ Q none (Wm W (k_emit A_2 (-204)) P)))))) ∧ (¬ ((A 6 4) = 204) → (Rg (x1 + 1)) ∧ (ExI A P t p) ∧ (ExO f (x1 + 1) x2) ∧ (∀ (A_1 : Nat → Int → Int), RG A_1 → (ExQ t (rdE t (A 1 1) f (x1 + 1) x2 p) A A_1) → (((x1 = 2) → wpE (xT 29) (xev xT d) Q (78, [(0, .ref (lo W 6)), (1, .int (iz x1)), (2, .int (iz x2)), (3, .int (iz 1)), (4, .int (iz 0))], [], Wm W A_1 P)) ∧ (¬ (x1 = 2) → wpE (xT 29) (xev xT d) Q (78, [(0, .ref (lo W 6)), (1, .int (iz x1)), (2, .int (iz x2)), (3, .int (iz 160)), (4, .int (iz 0))], [], Wm W A_1 P))))))) ∧ (¬ (x1 = 2) → (Rg (x1 + 1)) ∧ (ExI A P t p) ∧ (ExO f (x1 + 1) x2) ∧ (∀ (A_1 : Nat → Int → Int), RG A_1 → (ExQ t (rdE t (A 1 1) f (x1 + 1) x2 p) A A_1) → (((x1 = 2) → wpE (xT 29) (xev xT d) Q (78, [(0, .ref (lo W 6)), (1, .int (iz x1)), (2, .int (iz x2)), (3, .int (iz 1)), (4, .int (iz 0))], [], Wm W A_1 P)) ∧ (¬ (x1 = 2) → wpE (xT 29) (xev xT d) Q (78, [(0, .ref (lo W 6)), (1, .int (iz x1)), (2, .int (iz x2)), (3, .int (iz 160)), (4, .int (iz 0))], [], Wm W A_1 P))))))) ∧ (¬ (x1 ≤ 4) → (ExI A P t p) ∧ (ExO (f + 1) 5 x2) ∧ (∀ (A_1 : Nat → Int → Int), RG A_1 → (ExQ t (rdE t (A 1 1) (f + 1) 5 x2 p) A A_1) → Q none (Wm W A_1 P))))) : wpE (xT 29) (xev xT d) Q (0, [(0, .ref (lo W 6)), (1, .int (iz x1)), (2, .int (iz x2))], [], Wm W A P) := by
  refine p_ild (cc3 c29_0) rfl ?_
  refine i_push (n := 4) (cc3 c29_1) zl_4 ?_
  refine i_icmp (c' := x1 ≤ 4) (cc3 c29_2) (iz_le rr.1 (by decide : Rg (4 : Int))) (fun c => ?_) (fun c => ?_)
  · have h := h.1 c
    refine p_ild (cc3 c29_11) rfl ?_
    refine i_push (n := 2) (cc3 c29_12) zl_2 ?_
    refine i_icmp (c' := x1 = 2) (cc3 c29_13) (iz_inj rr.1 (by decide : Rg (2 : Int))) (fun c => ?_) (fun c => ?_)
    · have h := h.1 c
      refine p_ald (cc3 c29_16) rfl ?_
      refine w_geti hW (v := A 6 4) (cc3 c29_17) (st_k hT 6 11 (by decide)) (ji := 4) rfl rfl ?_
      refine i_push (n := 204) (cc3 c29_20) zl_204 ?_
      refine i_icmp (c' := (A 6 4) = 204) (cc3 c29_23) (iz_inj (hR 6 4) (by decide : Rg (204 : Int))) (fun c => ?_) (fun c => ?_)
      · have h := h.1 c
        refine p_ald (cc3 c29_26) rfl ?_
        refine p_ild (cc3 c29_27) rfl ?_
        refine p_callV (cc3 c29_28) (Nat.le_of_ble_eq_true rfl) rfl rfl (Nat.le_of_ble_eq_true rfl) (wk_kd hW (by decide) (st_k hT 6 11 (by decide))) (S32 (d := d) (by omega) hW hR hT hG rr.2) ?_
        refine i_ifB (cc3 c29_31) (fun c => ?_) (fun c => ?_)
        · have h := h.1 c
          refine p_lc (ls' := []) c29_53 rfl rfl ?_
          exact p_rv (cct c29_53 rfl) h
        · have h := h.2 c
          refine p_ald (cc3 c29_34) rfl ?_
          obtain ⟨g1, h⟩ := h
          obtain ⟨g2, h⟩ := h
          obtain ⟨g3, h⟩ := h
          obtain ⟨g4, h⟩ := h
          obtain ⟨A_1, he, hR_1, hp_1⟩ := S17 (d := d) (A := k_may A x2) (P := P) (by omega) hW (rg_may hR) hT hG t ⟨g1, g2, g3, g4⟩
          have h := h A_1 hR_1 hp_1
          refine p_callV (cc3 c29_35) (Nat.le_of_ble_eq_true rfl) rfl rfl (Nat.le_of_ble_eq_true rfl) (wk_kd hW (by decide) (st_k hT 6 11 (by decide))) he ?_
          refine p_ald (cc3 c29_38) rfl ?_
          refine i_push (n := 2) (cc3 c29_39) zl_2 ?_
          refine p_ild (cc3 c29_40) rfl ?_
          refine i_push (n := 1) (cc3 c29_41) zl_1 ?_
          obtain ⟨g5, h⟩ := h
          refine (fun _ : Rg (x2 + 1) => i_add (cc3 c29_42) ?_) g5
          obtain ⟨g6, h⟩ := h
          obtain ⟨g7, h⟩ := h
          obtain ⟨A_2, he, hR_2, hp_2⟩ := S29 (d := d) (A := A_1) (P := P) (by omega) hW hR_1 hT hG t (tkE t (A 1 1) p) ⟨(by decide : Rg (2 : Int)), g5⟩ ⟨g6, g7⟩
          have h := h A_2 hR_2 hp_2
          refine p_callV (cc3 c29_43) (Nat.le_of_ble_eq_true rfl) rfl rfl (Nat.le_of_ble_eq_true rfl) (wk_kd hW (by decide) (st_k hT 6 11 (by decide))) he ?_
          refine p_ald (cc3 c29_46) rfl ?_
          refine i_push (n := (-204)) (cc3 c29_47) zl_m204 ?_
          obtain ⟨g8, h⟩ := h
          refine p_callV (cc3 c29_50) (Nat.le_of_ble_eq_true rfl) rfl rfl (Nat.le_of_ble_eq_true rfl) (wk_kd hW (by decide) (st_k hT 6 11 (by decide))) (S31 (d := d) (by omega) hW hR_2 hT hG (by decide : Rg (-204 : Int)) g8) ?_
          refine p_lc (ls' := []) c29_53 rfl rfl ?_
          exact p_rv (cct c29_53 rfl) h
      · have h := h.2 c
        refine p_ald (cct c29_54 rfl) rfl ?_
        refine p_ild (cc3 c29_55) rfl ?_
        refine i_push (n := 1) (cc3 c29_56) zl_1 ?_
        obtain ⟨g1, h⟩ := h
        refine (fun _ : Rg (x1 + 1) => i_add (cc3 c29_57) ?_) g1
        refine p_ild (cc3 c29_58) rfl ?_
        obtain ⟨g2, h⟩ := h
        obtain ⟨g3, h⟩ := h
        obtain ⟨A_1, he, hR_1, hp_1⟩ := S29 (d := d) (A := A) (P := P) (by omega) hW hR hT hG t p ⟨g1, rr.2⟩ ⟨g2, g3⟩
        have h := h A_1 hR_1 hp_1
        refine p_callV (cc3 c29_59) (Nat.le_of_ble_eq_true rfl) rfl rfl (Nat.le_of_ble_eq_true rfl) (wk_kd hW (by decide) (st_k hT 6 11 (by decide))) he ?_
        refine p_ild (cc3 c29_62) rfl ?_
        refine i_push (n := 2) (cc3 c29_63) zl_2 ?_
        refine i_icmp (c' := x1 = 2) (cc3 c29_64) (iz_inj rr.1 (by decide : Rg (2 : Int))) (fun c => ?_) (fun c => ?_)
        · have h := h.1 c
          refine i_push (n := 1) (cc3 c29_67) zl_1 ?_
          refine p_goto (cc3 c29_68) ?_
          refine p_ist (ls' := [(3, .int (iz 1)), (0, .ref (lo W 6)), (1, .int (iz x1)), (2, .int (iz x2))]) (cct c29_74 rfl) (by decide) rfl ?_
          refine i_push (n := 0) (cc3 c29_75) zl_0 ?_
          refine p_ist (ls' := [(4, .int (iz 0)), (3, .int (iz 1)), (0, .ref (lo W 6)), (1, .int (iz x1)), (2, .int (iz x2))]) (cc3 c29_76) (by decide) rfl ?_
          exact p_lc (ls' := [(0, .ref (lo W 6)), (1, .int (iz x1)), (2, .int (iz x2)), (3, .int (iz 1)), (4, .int (iz 0))]) c29_78 rfl rfl h
        · have h := h.2 c
          refine i_push (n := 160) (cc3 c29_71) zl_160 ?_
          refine p_ist (ls' := [(3, .int (iz 160)), (0, .ref (lo W 6)), (1, .int (iz x1)), (2, .int (iz x2))]) (cct c29_74 rfl) (by decide) rfl ?_
          refine i_push (n := 0) (cc3 c29_75) zl_0 ?_
          refine p_ist (ls' := [(4, .int (iz 0)), (3, .int (iz 160)), (0, .ref (lo W 6)), (1, .int (iz x1)), (2, .int (iz x2))]) (cc3 c29_76) (by decide) rfl ?_
          exact p_lc (ls' := [(0, .ref (lo W 6)), (1, .int (iz x1)), (2, .int (iz x2)), (3, .int (iz 160)), (4, .int (iz 0))]) c29_78 rfl rfl h
    · have h := h.2 c
      refine p_ald (cct c29_54 rfl) rfl ?_
      refine p_ild (cc3 c29_55) rfl ?_
      refine i_push (n := 1) (cc3 c29_56) zl_1 ?_
      obtain ⟨g1, h⟩ := h
      refine (fun _ : Rg (x1 + 1) => i_add (cc3 c29_57) ?_) g1
      refine p_ild (cc3 c29_58) rfl ?_
      obtain ⟨g2, h⟩ := h
      obtain ⟨g3, h⟩ := h
      obtain ⟨A_1, he, hR_1, hp_1⟩ := S29 (d := d) (A := A) (P := P) (by omega) hW hR hT hG t p ⟨g1, rr.2⟩ ⟨g2, g3⟩
      have h := h A_1 hR_1 hp_1
      refine p_callV (cc3 c29_59) (Nat.le_of_ble_eq_true rfl) rfl rfl (Nat.le_of_ble_eq_true rfl) (wk_kd hW (by decide) (st_k hT 6 11 (by decide))) he ?_
      refine p_ild (cc3 c29_62) rfl ?_
      refine i_push (n := 2) (cc3 c29_63) zl_2 ?_
      refine i_icmp (c' := x1 = 2) (cc3 c29_64) (iz_inj rr.1 (by decide : Rg (2 : Int))) (fun c => ?_) (fun c => ?_)
      · have h := h.1 c
        refine i_push (n := 1) (cc3 c29_67) zl_1 ?_
        refine p_goto (cc3 c29_68) ?_
        refine p_ist (ls' := [(3, .int (iz 1)), (0, .ref (lo W 6)), (1, .int (iz x1)), (2, .int (iz x2))]) (cct c29_74 rfl) (by decide) rfl ?_
        refine i_push (n := 0) (cc3 c29_75) zl_0 ?_
        refine p_ist (ls' := [(4, .int (iz 0)), (3, .int (iz 1)), (0, .ref (lo W 6)), (1, .int (iz x1)), (2, .int (iz x2))]) (cc3 c29_76) (by decide) rfl ?_
        exact p_lc (ls' := [(0, .ref (lo W 6)), (1, .int (iz x1)), (2, .int (iz x2)), (3, .int (iz 1)), (4, .int (iz 0))]) c29_78 rfl rfl h
      · have h := h.2 c
        refine i_push (n := 160) (cc3 c29_71) zl_160 ?_
        refine p_ist (ls' := [(3, .int (iz 160)), (0, .ref (lo W 6)), (1, .int (iz x1)), (2, .int (iz x2))]) (cct c29_74 rfl) (by decide) rfl ?_
        refine i_push (n := 0) (cc3 c29_75) zl_0 ?_
        refine p_ist (ls' := [(4, .int (iz 0)), (3, .int (iz 160)), (0, .ref (lo W 6)), (1, .int (iz x1)), (2, .int (iz x2))]) (cc3 c29_76) (by decide) rfl ?_
        exact p_lc (ls' := [(0, .ref (lo W 6)), (1, .int (iz x1)), (2, .int (iz x2)), (3, .int (iz 160)), (4, .int (iz 0))]) c29_78 rfl rfl h
  · have h := h.2 c
    refine p_ald (cc3 c29_5) rfl ?_
    refine p_ild (cc3 c29_6) rfl ?_
    obtain ⟨g1, h⟩ := h
    obtain ⟨g2, h⟩ := h
    obtain ⟨A_1, he, hR_1, hp_1⟩ := S30 (d := d) (A := A) (P := P) (by omega) hW hR hT hG t p rr.2 ⟨g1, g2⟩
    have h := h A_1 hR_1 hp_1
    refine p_callV (cc3 c29_7) (Nat.le_of_ble_eq_true rfl) rfl rfl (Nat.le_of_ble_eq_true rfl) (wk_kd hW (by decide) (st_k hT 6 11 (by decide))) he ?_
    exact p_rv (cc3 c29_10) h
theorem V29_78 {f d : Nat} (hd : 2 * f + 10 ≤ d) {Q : Option Value → xM → Prop} {t : Int → Int} {p : Int} (S29 : ∀ {d : Nat} (hd : 2 * f + 9 ≤ d) {W : gW} (hW : HW W) {A : Nat → Int → Int} {P : Nat → Int → Nat} (hR : RG A) (hT : Stat W P) (hG : GL W) (t : Int → Int) (p : Int) {x1 x2 : Int} (rr : Rg x1 ∧ Rg x2) (hp : (ExI A P t p) ∧ (ExO f x1 x2)), ∃ (A' : Nat → Int → Int), xev xT d 29 [.ref (lo W 6), .int (iz x1), .int (iz x2)] (Wm W A P) none (Wm W A' P) ∧ RG A' ∧ (ExQ t (rdE t (A 1 1) f x1 x2 p) A A')) (S30 : ∀ {d : Nat} (hd : 2 * (f + 1) + 8 ≤ d) {W : gW} (hW : HW W) {A : Nat → Int → Int} {P : Nat → Int → Nat} (hR : RG A) (hT : Stat W P) (hG : GL W) (t : Int → Int) (p : Int) {x1 : Int} (rr : Rg x1) (hp : (ExI A P t p) ∧ (ExO (f + 1) 5 x1)), ∃ (A' : Nat → Int → Int), xev xT d 30 [.ref (lo W 6), .int (iz x1)] (Wm W A P) none (Wm W A' P) ∧ RG A' ∧ (ExQ t (rdE t (A 1 1) (f + 1) 5 x1 p) A A')) {W : gW} (hW : HW W) {A : Nat → Int → Int} {P : Nat → Int → Nat} (hR : RG A) (hT : Stat W P) (hG : GL W) {x1 x2 x3 x4 : Int} (rr : Rg x1 ∧ Rg x2 ∧ Rg x3 ∧ Rg x4) (h : (((x3 ≤ x4) → Q none (Wm W A P)) ∧ (¬ (x3 ≤ x4) → ((((lvC (A 6 4)) = x1) → (TpR A t) ∧ (StrA A) ∧ (P 6 3 = 1 + 1) ∧ (A 6 8 = -1 → 0 ≤ A 6 7 ∧ A 6 7 ≤ A 1 1) ∧ (∀ (A_1 : Nat → Int → Int), RG A_1 → ((¬ A 6 8 = -1 → A_1 = A) ∧ (A 6 8 = -1 → Fo 6 [] [4, 5, 6, 7] A A_1 ∧ KCur A_1 t (A 1 1) (A 6 7))) → (Rg (x1 + 1)) ∧ (ExI A_1 P t (tkE t (A 1 1) p)) ∧ (ExO f (x1 + 1) x2) ∧ (∀ (A_2 : Nat → Int → Int), RG A_2 → (ExQ t (rdE t (A_1 1 1) f (x1 + 1) x2 (tkE t (A 1 1) p)) A_1 A_2) → (Rg (-(A 6 4))) ∧ (0 ≤ A_2 6 1) ∧ (Rg (x4 + 1)) ∧ wpE (xT 29) (xev xT d) Q (78, [(0, .ref (lo W 6)), (1, .int (iz x1)), (2, .int (iz x2)), (3, .int (iz x3)), (4, .int (iz (x4 + 1)))], [], Wm W (k_emit A_2 (-(A 6 4))) P)))) ∧ (¬ ((lvC (A 6 4)) = x1) → Q none (Wm W A P)))))) : wpE (xT 29) (xev xT d) Q (78, [(0, .ref (lo W 6)), (1, .int (iz x1)), (2, .int (iz x2)), (3, .int (iz x3)), (4, .int (iz x4))], [], Wm W A P) := by
  refine p_ild (cct c29_78 rfl) rfl ?_
  refine p_ild (cc3 c29_80) rfl ?_
  refine i_icmp (c' := x3 ≤ x4) (cc3 c29_81) (iz_le rr.2.2.1 rr.2.2.2) (fun c => ?_) (fun c => ?_)
  · have h := h.1 c
    refine p_lc (ls' := []) c29_126 rfl rfl ?_
    exact p_rv (cct c29_126 rfl) h
  · have h := h.2 c
    refine p_ald (cc3 c29_84) rfl ?_
    refine w_geti hW (v := A 6 4) (cc3 c29_85) (st_k hT 6 11 (by decide)) (ji := 4) rfl rfl ?_
    refine p_callS (cc3 c29_88) (Nat.le_of_ble_eq_true rfl) rfl rfl (Nat.le_of_ble_eq_true rfl) (S33 (d := d) (by omega) (hR 6 4)) ?_
    refine p_ild (cc3 c29_91) rfl ?_
    refine i_icmp (c' := (lvC (A 6 4)) = x1) (cc3 c29_92) (iz_inj rg_lv rr.1) (fun c => ?_) (fun c => ?_)
    · have h := h.1 c
      refine p_ald (cc3 c29_95) rfl ?_
      refine w_geti hW (v := A 6 4) (cc3 c29_96) (st_k hT 6 11 (by decide)) (ji := 4) rfl rfl ?_
      refine p_ist (ls' := [(5, .int (iz (A 6 4))), (0, .ref (lo W 6)), (1, .int (iz x1)), (2, .int (iz x2)), (3, .int (iz x3)), (4, .int (iz x4))]) (cc3 c29_99) (by decide) rfl ?_
      refine p_ald (cc3 c29_101) rfl ?_
      obtain ⟨g1, h⟩ := h
      obtain ⟨g2, h⟩ := h
      obtain ⟨g3, h⟩ := h
      obtain ⟨g4, h⟩ := h
      obtain ⟨A_1, he, hR_1, hp_1⟩ := S17 (d := d) (A := A) (P := P) (by omega) hW hR hT hG t ⟨g1, g2, g3, g4⟩
      have h := h A_1 hR_1 hp_1
      refine p_callV (cc3 c29_102) (Nat.le_of_ble_eq_true rfl) rfl rfl (Nat.le_of_ble_eq_true rfl) (wk_kd hW (by decide) (st_k hT 6 11 (by decide))) he ?_
      refine p_ald (cc3 c29_105) rfl ?_
      refine p_ild (cc3 c29_106) rfl ?_
      refine i_push (n := 1) (cc3 c29_107) zl_1 ?_
      obtain ⟨g5, h⟩ := h
      refine (fun _ : Rg (x1 + 1) => i_add (cc3 c29_108) ?_) g5
      refine p_ild (cc3 c29_109) rfl ?_
      obtain ⟨g6, h⟩ := h
      obtain ⟨g7, h⟩ := h
      obtain ⟨A_2, he, hR_2, hp_2⟩ := S29 (d := d) (A := A_1) (P := P) (by omega) hW hR_1 hT hG t (tkE t (A 1 1) p) ⟨g5, rr.2.1⟩ ⟨g6, g7⟩
      have h := h A_2 hR_2 hp_2
      refine p_callV (cc3 c29_110) (Nat.le_of_ble_eq_true rfl) rfl rfl (Nat.le_of_ble_eq_true rfl) (wk_kd hW (by decide) (st_k hT 6 11 (by decide))) he ?_
      refine p_ald (cc3 c29_113) rfl ?_
      refine p_ild (cc3 c29_114) rfl ?_
      obtain ⟨g8, h⟩ := h
      refine (fun _ : Rg (-(A 6 4)) => i_un (z := -(A 6 4)) (cc3 c29_116) iz_neg ?_) g8
      obtain ⟨g9, h⟩ := h
      refine p_callV (cc3 c29_117) (Nat.le_of_ble_eq_true rfl) rfl rfl (Nat.le_of_ble_eq_true rfl) (wk_kd hW (by decide) (st_k hT 6 11 (by decide))) (S31 (d := d) (by omega) hW hR_2 hT hG g8 g9) ?_
      obtain ⟨g10, h⟩ := h
      refine (fun _ : Rg (x4 + 1) => i_iinc (n := 1) (y := x4 + 1) (ls' := [(4, .int (iz (x4 + 1))), (5, .int (iz (A 6 4))), (0, .ref (lo W 6)), (1, .int (iz x1)), (2, .int (iz x2)), (3, .int (iz x3))]) (cc3 c29_120) (by decide) rfl zl_1 (by first | rfl | omega) rfl ?_) g10
      refine p_goto (cc3 c29_123) ?_
      exact p_lc (ls' := [(0, .ref (lo W 6)), (1, .int (iz x1)), (2, .int (iz x2)), (3, .int (iz x3)), (4, .int (iz (x4 + 1)))]) c29_78 rfl rfl h
    · have h := h.2 c
      refine p_lc (ls' := []) c29_126 rfl rfl ?_
      exact p_rv (cct c29_126 rfl) h
theorem V30_0 {f d : Nat} (hd : 2 * f + 9 ≤ d) {Q : Option Value → xM → Prop} {t : Int → Int} {p : Int} (S29 : ∀ {d : Nat} (hd : 2 * f + 9 ≤ d) {W : gW} (hW : HW W) {A : Nat → Int → Int} {P : Nat → Int → Nat} (hR : RG A) (hT : Stat W P) (hG : GL W) (t : Int → Int) (p : Int) {x1 x2 : Int} (rr : Rg x1 ∧ Rg x2) (hp : (ExI A P t p) ∧ (ExO f x1 x2)), ∃ (A' : Nat → Int → Int), xev xT d 29 [.ref (lo W 6), .int (iz x1), .int (iz x2)] (Wm W A P) none (Wm W A' P) ∧ RG A' ∧ (ExQ t (rdE t (A 1 1) f x1 x2 p) A A')) (S30 : ∀ {d : Nat} (hd : 2 * f + 8 ≤ d) {W : gW} (hW : HW W) {A : Nat → Int → Int} {P : Nat → Int → Nat} (hR : RG A) (hT : Stat W P) (hG : GL W) (t : Int → Int) (p : Int) {x1 : Int} (rr : Rg x1) (hp : (ExI A P t p) ∧ (ExO f 5 x1)), ∃ (A' : Nat → Int → Int), xev xT d 30 [.ref (lo W 6), .int (iz x1)] (Wm W A P) none (Wm W A' P) ∧ RG A' ∧ (ExQ t (rdE t (A 1 1) f 5 x1 p) A A')) {W : gW} (hW : HW W) {A : Nat → Int → Int} {P : Nat → Int → Nat} (hR : RG A) (hT : Stat W P) (hG : GL W) {x1 : Int} (rr : Rg x1) (h : ((((A 6 4) = 400) → (0 ≤ A 6 1) ∧ (TpR (k_emit A (A 6 5)) t) ∧ (StrA (k_emit A (A 6 5))) ∧ (P 6 3 = 1 + 1) ∧ ((k_emit A (A 6 5)) 6 8 = -1 → 0 ≤ (k_emit A (A 6 5)) 6 7 ∧ (k_emit A (A 6 5)) 6 7 ≤ (k_emit A (A 6 5)) 1 1) ∧ (∀ (A_1 : Nat → Int → Int), RG A_1 → ((¬ (k_emit A (A 6 5)) 6 8 = -1 → A_1 = (k_emit A (A 6 5))) ∧ ((k_emit A (A 6 5)) 6 8 = -1 → Fo 6 [] [4, 5, 6, 7] (k_emit A (A 6 5)) A_1 ∧ KCur A_1 t ((k_emit A (A 6 5)) 1 1) ((k_emit A (A 6 5)) 6 7))) → Q none (Wm W A_1 P))) ∧ (¬ ((A 6 4) = 400) → ((((A 6 4) < 205) → ((((A 6 4) = 45) → ((¬ (x1 < 5) → Q none (Wm W (k_may A x1) P)) ∧ ((x1 < 5) → (TpR (k_may A x1) t) ∧ (StrA (k_may A x1)) ∧ (P 6 3 = 1 + 1) ∧ ((k_may A x1) 6 8 = -1 → 0 ≤ (k_may A x1) 6 7 ∧ (k_may A x1) 6 7 ≤ (k_may A x1) 1 1) ∧ (∀ (A_1 : Nat → Int → Int), RG A_1 → ((¬ (k_may A x1) 6 8 = -1 → A_1 = (k_may A x1)) ∧ ((k_may A x1) 6 8 = -1 → Fo 6 [] [4, 5, 6, 7] (k_may A x1) A_1 ∧ KCur A_1 t ((k_may A x1) 1 1) ((k_may A x1) 6 7))) → (Rg (x1 + 1)) ∧ (ExI A_1 P t (tkE t (A 1 1) p)) ∧ (ExO f 5 (x1 + 1)) ∧ (∀ (A_2 : Nat → Int → Int), RG A_2 → (ExQ t (rdE t (A_1 1 1) f 5 (x1 + 1) (tkE t (A 1 1) p)) A_1 A_2) → (0 ≤ A_2 6 1) ∧ Q none (Wm W (k_emit A_2 (-300)) P)))))) ∧ (¬ ((A 6 4) = 45) → ((((A 6 4) = 40) → ((¬ (x1 < 5) → Q none (Wm W (k_may A x1) P)) ∧ ((x1 < 5) → (TpR (k_may A x1) t) ∧ (StrA (k_may A x1)) ∧ (P 6 3 = 1 + 1) ∧ ((k_may A x1) 6 8 = -1 → 0 ≤ (k_may A x1) 6 7 ∧ (k_may A x1) 6 7 ≤ (k_may A x1) 1 1) ∧ (∀ (A_1 : Nat → Int → Int), RG A_1 → ((¬ (k_may A x1) 6 8 = -1 → A_1 = (k_may A x1)) ∧ ((k_may A x1) 6 8 = -1 → Fo 6 [] [4, 5, 6, 7] (k_may A x1) A_1 ∧ KCur A_1 t ((k_may A x1) 1 1) ((k_may A x1) 6 7))) → (Rg (x1 + 1)) ∧ (ExI A_1 P t (tkE t (A 1 1) p)) ∧ (ExO f (0 : Int) (x1 + 1)) ∧ (∀ (A_2 : Nat → Int → Int), RG A_2 → (ExQ t (rdE t (A_1 1 1) f 0 (x1 + 1) (tkE t (A 1 1) p)) A_1 A_2) → (TpR A_2 t) ∧ (StrA A_2) ∧ (A_2 6 8 = -1 → ¬ A_2 6 4 = 401 → 0 ≤ A_2 6 7 ∧ A_2 6 7 ≤ A_2 1 1) ∧ (∀ (A_3 : Nat → Int → Int), RG A_3 → ((A_2 6 4 = 41 → ((41 : Int) = 401 → A_3 = A_2) ∧ (¬ (41 : Int) = 401 → (¬ A_2 6 8 = -1 → A_3 = A_2) ∧ (A_2 6 8 = -1 → Fo 6 [] [4, 5, 6, 7] A_2 A_3 ∧ KCur A_3 t (A_2 1 1) (A_2 6 7)))) ∧ (¬ A_2 6 4 = 41 → A_3 = k_fail A_2)) → Q none (Wm W A_3 P))))))) ∧ (¬ ((A 6 4) = 40) → Q none (Wm W (k_fail A) P)))))) ∧ (¬ ((A 6 4) < 205) → (((211 ≤ (A 6 4)) → ((((A 6 4) = 45) → ((¬ (x1 < 5) → Q none (Wm W (k_may A x1) P)) ∧ ((x1 < 5) → (TpR (k_may A x1) t) ∧ (StrA (k_may A x1)) ∧ (P 6 3 = 1 + 1) ∧ ((k_may A x1) 6 8 = -1 → 0 ≤ (k_may A x1) 6 7 ∧ (k_may A x1) 6 7 ≤ (k_may A x1) 1 1) ∧ (∀ (A_1 : Nat → Int → Int), RG A_1 → ((¬ (k_may A x1) 6 8 = -1 → A_1 = (k_may A x1)) ∧ ((k_may A x1) 6 8 = -1 → Fo 6 [] [4, 5, 6, 7] (k_may A x1) A_1 ∧ KCur A_1 t ((k_may A x1) 1 1) ((k_may A x1) 6 7))) → (Rg (x1 + 1)) ∧ (ExI A_1 P t (tkE t (A 1 1) p)) ∧ (ExO f 5 (x1 + 1)) ∧ (∀ (A_2 : Nat → Int → Int), RG A_2 → (ExQ t (rdE t (A_1 1 1) f 5 (x1 + 1) (tkE t (A 1 1) p)) A_1 A_2) → (0 ≤ A_2 6 1) ∧ Q none (Wm W (k_emit A_2 (-300)) P)))))) ∧ (¬ ((A 6 4) = 45) → ((((A 6 4) = 40) → ((¬ (x1 < 5) → Q none (Wm W (k_may A x1) P)) ∧ ((x1 < 5) → (TpR (k_may A x1) t) ∧ (StrA (k_may A x1)) ∧ (P 6 3 = 1 + 1) ∧ ((k_may A x1) 6 8 = -1 → 0 ≤ (k_may A x1) 6 7 ∧ (k_may A x1) 6 7 ≤ (k_may A x1) 1 1) ∧ (∀ (A_1 : Nat → Int → Int), RG A_1 → ((¬ (k_may A x1) 6 8 = -1 → A_1 = (k_may A x1)) ∧ ((k_may A x1) 6 8 = -1 → Fo 6 [] [4, 5, 6, 7] (k_may A x1) A_1 ∧ KCur A_1 t ((k_may A x1) 1 1) ((k_may A x1) 6 7))) → (Rg (x1 + 1)) ∧ (ExI A_1 P t (tkE t (A 1 1) p)) ∧ (ExO f (0 : Int) (x1 + 1)) ∧ (∀ (A_2 : Nat → Int → Int), RG A_2 → (ExQ t (rdE t (A_1 1 1) f 0 (x1 + 1) (tkE t (A 1 1) p)) A_1 A_2) → (TpR A_2 t) ∧ (StrA A_2) ∧ (A_2 6 8 = -1 → ¬ A_2 6 4 = 401 → 0 ≤ A_2 6 7 ∧ A_2 6 7 ≤ A_2 1 1) ∧ (∀ (A_3 : Nat → Int → Int), RG A_3 → ((A_2 6 4 = 41 → ((41 : Int) = 401 → A_3 = A_2) ∧ (¬ (41 : Int) = 401 → (¬ A_2 6 8 = -1 → A_3 = A_2) ∧ (A_2 6 8 = -1 → Fo 6 [] [4, 5, 6, 7] A_2 A_3 ∧ KCur A_3 t (A_2 1 1) (A_2 6 7)))) ∧ (¬ A_2 6 4 = 41 → A_3 = k_fail A_2)) → Q none (Wm W A_3 P))))))) ∧ (¬ ((A 6 4) = 40) → Q none (Wm W (k_fail A) P)))))) ∧ (¬ (211 ≤ (A 6 4)) → (Rg (10000 + (A 6 4))) ∧ (Rg ((10000 + (A 6 4)) - 205)) ∧ (0 ≤ A 6 1) ∧ (TpR (k_emit A ((10000 + (A 6 4)) - 205)) t) ∧ (StrA (k_emit A ((10000 + (A 6 4)) - 205))) ∧ (P 6 3 = 1 + 1) ∧ ((k_emit A ((10000 + (A 6 4)) - 205)) 6 8 = -1 → 0 ≤ (k_emit A ((10000 + (A 6 4)) - 205)) 6 7 ∧ (k_emit A ((10000 + (A 6 4)) - 205)) 6 7 ≤ (k_emit A ((10000 + (A 6 4)) - 205)) 1 1) ∧ (∀ (A_1 : Nat → Int → Int), RG A_1 → ((¬ (k_emit A ((10000 + (A 6 4)) - 205)) 6 8 = -1 → A_1 = (k_emit A ((10000 + (A 6 4)) - 205))) ∧ ((k_emit A ((10000 + (A 6 4)) - 205)) 6 8 = -1 → Fo 6 [] [4, 5, 6, 7] (k_emit A ((10000 + (A 6 4)) - 205)) A_1 ∧ KCur A_1 t ((k_emit A ((10000 + (A 6 4)) - 205)) 1 1) ((k_emit A ((10000 + (A 6 4)) - 205)) 6 7))) → Q none (Wm W A_1 P))))))))) : wpE (xT 30) (xev xT d) Q (0, [(0, .ref (lo W 6)), (1, .int (iz x1))], [], Wm W A P) := by
  refine p_ald (cc3 c30_0) rfl ?_
  refine w_geti hW (v := A 6 4) (cc3 c30_1) (st_k hT 6 11 (by decide)) (ji := 4) rfl rfl ?_
  refine i_push (n := 400) (cc3 c30_4) zl_400 ?_
  refine i_icmp (c' := (A 6 4) = 400) (cc3 c30_7) (iz_inj (hR 6 4) (by decide : Rg (400 : Int))) (fun c => ?_) (fun c => ?_)
  · have h := h.1 c
    refine p_ald (cc3 c30_10) rfl ?_
    refine p_ald (cc3 c30_11) rfl ?_
    refine w_geti hW (v := A 6 5) (cc3 c30_12) (st_k hT 6 11 (by decide)) (ji := 5) rfl rfl ?_
    obtain ⟨g1, h⟩ := h
    refine p_callV (cc3 c30_15) (Nat.le_of_ble_eq_true rfl) rfl rfl (Nat.le_of_ble_eq_true rfl) (wk_kd hW (by decide) (st_k hT 6 11 (by decide))) (S31 (d := d) (by omega) hW hR hT hG (hR 6 5) g1) ?_
    refine p_ald (cc3 c30_18) rfl ?_
    obtain ⟨g2, h⟩ := h
    obtain ⟨g3, h⟩ := h
    obtain ⟨g4, h⟩ := h
    obtain ⟨g5, h⟩ := h
    obtain ⟨A_1, he, hR_1, hp_1⟩ := S17 (d := d) (A := k_emit A (A 6 5)) (P := P) (by omega) hW (rg_emit hR (hR 6 5) g1) hT hG t ⟨g2, g3, g4, g5⟩
    have h := h A_1 hR_1 hp_1
    refine p_callV (cc3 c30_19) (Nat.le_of_ble_eq_true rfl) rfl rfl (Nat.le_of_ble_eq_true rfl) (wk_kd hW (by decide) (st_k hT 6 11 (by decide))) he ?_
    refine p_goto (cc3 c30_22) ?_
    refine p_lc (ls' := []) c30_148 rfl rfl ?_
    exact p_rv (cct c30_148 rfl) h
  · have h := h.2 c
    refine p_ald (cc3 c30_25) rfl ?_
    refine w_geti hW (v := A 6 4) (cc3 c30_26) (st_k hT 6 11 (by decide)) (ji := 4) rfl rfl ?_
    refine i_push (n := 205) (cc3 c30_29) zl_205 ?_
    refine i_icmp (c' := (A 6 4) < 205) (cc3 c30_32) (iz_lt (hR 6 4) (by decide : Rg (205 : Int))) (fun c => ?_) (fun c => ?_)
    · have h := h.1 c
      refine p_ald (cct c30_68 rfl) rfl ?_
      refine w_geti hW (v := A 6 4) (cc3 c30_69) (st_k hT 6 11 (by decide)) (ji := 4) rfl rfl ?_
      refine i_push (n := 45) (cc3 c30_72) zl_45 ?_
      refine i_icmp (c' := (A 6 4) = 45) (cc3 c30_74) (iz_inj (hR 6 4) (by decide : Rg (45 : Int))) (fun c => ?_) (fun c => ?_)
      · have h := h.1 c
        refine p_ald (cc3 c30_77) rfl ?_
        refine p_ild (cc3 c30_78) rfl ?_
        refine p_callV (cc3 c30_79) (Nat.le_of_ble_eq_true rfl) rfl rfl (Nat.le_of_ble_eq_true rfl) (wk_kd hW (by decide) (st_k hT 6 11 (by decide))) (S32 (d := d) (by omega) hW hR hT hG rr) ?_
        refine i_ifB (cc3 c30_82) (fun c => ?_) (fun c => ?_)
        · have h := h.1 c
          refine p_lc (ls' := []) c30_148 rfl rfl ?_
          exact p_rv (cct c30_148 rfl) h
        · have h := h.2 c
          refine p_ald (cc3 c30_85) rfl ?_
          obtain ⟨g1, h⟩ := h
          obtain ⟨g2, h⟩ := h
          obtain ⟨g3, h⟩ := h
          obtain ⟨g4, h⟩ := h
          obtain ⟨A_1, he, hR_1, hp_1⟩ := S17 (d := d) (A := k_may A x1) (P := P) (by omega) hW (rg_may hR) hT hG t ⟨g1, g2, g3, g4⟩
          have h := h A_1 hR_1 hp_1
          refine p_callV (cc3 c30_86) (Nat.le_of_ble_eq_true rfl) rfl rfl (Nat.le_of_ble_eq_true rfl) (wk_kd hW (by decide) (st_k hT 6 11 (by decide))) he ?_
          refine p_ald (cc3 c30_89) rfl ?_
          refine p_ild (cc3 c30_90) rfl ?_
          refine i_push (n := 1) (cc3 c30_91) zl_1 ?_
          obtain ⟨g5, h⟩ := h
          refine (fun _ : Rg (x1 + 1) => i_add (cc3 c30_92) ?_) g5
          obtain ⟨g6, h⟩ := h
          obtain ⟨g7, h⟩ := h
          obtain ⟨A_2, he, hR_2, hp_2⟩ := S30 (d := d) (A := A_1) (P := P) (by omega) hW hR_1 hT hG t (tkE t (A 1 1) p) g5 ⟨g6, g7⟩
          have h := h A_2 hR_2 hp_2
          refine p_callV (cc3 c30_93) (Nat.le_of_ble_eq_true rfl) rfl rfl (Nat.le_of_ble_eq_true rfl) (wk_kd hW (by decide) (st_k hT 6 11 (by decide))) he ?_
          refine p_ald (cc3 c30_96) rfl ?_
          refine i_push (n := (-300)) (cc3 c30_97) zl_m300 ?_
          obtain ⟨g8, h⟩ := h
          refine p_callV (cc3 c30_100) (Nat.le_of_ble_eq_true rfl) rfl rfl (Nat.le_of_ble_eq_true rfl) (wk_kd hW (by decide) (st_k hT 6 11 (by decide))) (S31 (d := d) (by omega) hW hR_2 hT hG (by decide : Rg (-300 : Int)) g8) ?_
          refine p_goto (cc3 c30_103) ?_
          refine p_lc (ls' := []) c30_148 rfl rfl ?_
          exact p_rv (cct c30_148 rfl) h
      · have h := h.2 c
        refine p_ald (cc3 c30_106) rfl ?_
        refine w_geti hW (v := A 6 4) (cc3 c30_107) (st_k hT 6 11 (by decide)) (ji := 4) rfl rfl ?_
        refine i_push (n := 40) (cc3 c30_110) zl_40 ?_
        refine i_icmp (c' := (A 6 4) = 40) (cc3 c30_112) (iz_inj (hR 6 4) (by decide : Rg (40 : Int))) (fun c => ?_) (fun c => ?_)
        · have h := h.1 c
          refine p_ald (cc3 c30_115) rfl ?_
          refine p_ild (cc3 c30_116) rfl ?_
          refine p_callV (cc3 c30_117) (Nat.le_of_ble_eq_true rfl) rfl rfl (Nat.le_of_ble_eq_true rfl) (wk_kd hW (by decide) (st_k hT 6 11 (by decide))) (S32 (d := d) (by omega) hW hR hT hG rr) ?_
          refine i_ifB (cc3 c30_120) (fun c => ?_) (fun c => ?_)
          · have h := h.1 c
            refine p_lc (ls' := []) c30_148 rfl rfl ?_
            exact p_rv (cct c30_148 rfl) h
          · have h := h.2 c
            refine p_ald (cc3 c30_123) rfl ?_
            obtain ⟨g1, h⟩ := h
            obtain ⟨g2, h⟩ := h
            obtain ⟨g3, h⟩ := h
            obtain ⟨g4, h⟩ := h
            obtain ⟨A_1, he, hR_1, hp_1⟩ := S17 (d := d) (A := k_may A x1) (P := P) (by omega) hW (rg_may hR) hT hG t ⟨g1, g2, g3, g4⟩
            have h := h A_1 hR_1 hp_1
            refine p_callV (cc3 c30_124) (Nat.le_of_ble_eq_true rfl) rfl rfl (Nat.le_of_ble_eq_true rfl) (wk_kd hW (by decide) (st_k hT 6 11 (by decide))) he ?_
            refine p_ald (cc3 c30_127) rfl ?_
            refine i_push (n := 0) (cc3 c30_128) zl_0 ?_
            refine p_ild (cc3 c30_129) rfl ?_
            refine i_push (n := 1) (cc3 c30_130) zl_1 ?_
            obtain ⟨g5, h⟩ := h
            refine (fun _ : Rg (x1 + 1) => i_add (cc3 c30_131) ?_) g5
            obtain ⟨g6, h⟩ := h
            obtain ⟨g7, h⟩ := h
            obtain ⟨A_2, he, hR_2, hp_2⟩ := S29 (d := d) (A := A_1) (P := P) (by omega) hW hR_1 hT hG t (tkE t (A 1 1) p) ⟨(by decide : Rg (0 : Int)), g5⟩ ⟨g6, g7⟩
            have h := h A_2 hR_2 hp_2
            refine p_callV (cc3 c30_132) (Nat.le_of_ble_eq_true rfl) rfl rfl (Nat.le_of_ble_eq_true rfl) (wk_kd hW (by decide) (st_k hT 6 11 (by decide))) he ?_
            refine p_ald (cc3 c30_135) rfl ?_
            refine i_push (n := 41) (cc3 c30_136) zl_41 ?_
            obtain ⟨g8, h⟩ := h
            obtain ⟨g9, h⟩ := h
            obtain ⟨g10, h⟩ := h
            obtain ⟨A_3, he, hR_3, hp_3⟩ := S27 (d := d) (A := A_2) (P := P) (by omega) hW hR_2 hT hG t (by decide : Rg (41 : Int)) ⟨g8, g9, g3, g10⟩
            have h := h A_3 hR_3 hp_3
            refine p_callV (cc3 c30_138) (Nat.le_of_ble_eq_true rfl) rfl rfl (Nat.le_of_ble_eq_true rfl) (wk_kd hW (by decide) (st_k hT 6 11 (by decide))) he ?_
            refine p_goto (cc3 c30_141) ?_
            refine p_lc (ls' := []) c30_148 rfl rfl ?_
            exact p_rv (cct c30_148 rfl) h
        · have h := h.2 c
          refine p_ald (cc3 c30_144) rfl ?_
          refine p_callV (cc3 c30_145) (Nat.le_of_ble_eq_true rfl) rfl rfl (Nat.le_of_ble_eq_true rfl) (wk_kd hW (by decide) (st_k hT 6 11 (by decide))) (S28 (d := d) (by omega) hW hR hT hG) ?_
          refine p_lc (ls' := []) c30_148 rfl rfl ?_
          exact p_rv (cct c30_148 rfl) h
    · have h := h.2 c
      refine p_ald (cc3 c30_35) rfl ?_
      refine w_geti hW (v := A 6 4) (cc3 c30_36) (st_k hT 6 11 (by decide)) (ji := 4) rfl rfl ?_
      refine i_push (n := 211) (cc3 c30_39) zl_211 ?_
      refine i_icmp (c' := 211 ≤ (A 6 4)) (cc3 c30_42) (iz_le (by decide : Rg (211 : Int)) (hR 6 4)) (fun c => ?_) (fun c => ?_)
      · have h := h.1 c
        refine p_ald (cct c30_68 rfl) rfl ?_
        refine w_geti hW (v := A 6 4) (cc3 c30_69) (st_k hT 6 11 (by decide)) (ji := 4) rfl rfl ?_
        refine i_push (n := 45) (cc3 c30_72) zl_45 ?_
        refine i_icmp (c' := (A 6 4) = 45) (cc3 c30_74) (iz_inj (hR 6 4) (by decide : Rg (45 : Int))) (fun c => ?_) (fun c => ?_)
        · have h := h.1 c
          refine p_ald (cc3 c30_77) rfl ?_
          refine p_ild (cc3 c30_78) rfl ?_
          refine p_callV (cc3 c30_79) (Nat.le_of_ble_eq_true rfl) rfl rfl (Nat.le_of_ble_eq_true rfl) (wk_kd hW (by decide) (st_k hT 6 11 (by decide))) (S32 (d := d) (by omega) hW hR hT hG rr) ?_
          refine i_ifB (cc3 c30_82) (fun c => ?_) (fun c => ?_)
          · have h := h.1 c
            refine p_lc (ls' := []) c30_148 rfl rfl ?_
            exact p_rv (cct c30_148 rfl) h
          · have h := h.2 c
            refine p_ald (cc3 c30_85) rfl ?_
            obtain ⟨g1, h⟩ := h
            obtain ⟨g2, h⟩ := h
            obtain ⟨g3, h⟩ := h
            obtain ⟨g4, h⟩ := h
            obtain ⟨A_1, he, hR_1, hp_1⟩ := S17 (d := d) (A := k_may A x1) (P := P) (by omega) hW (rg_may hR) hT hG t ⟨g1, g2, g3, g4⟩
            have h := h A_1 hR_1 hp_1
            refine p_callV (cc3 c30_86) (Nat.le_of_ble_eq_true rfl) rfl rfl (Nat.le_of_ble_eq_true rfl) (wk_kd hW (by decide) (st_k hT 6 11 (by decide))) he ?_
            refine p_ald (cc3 c30_89) rfl ?_
            refine p_ild (cc3 c30_90) rfl ?_
            refine i_push (n := 1) (cc3 c30_91) zl_1 ?_
            obtain ⟨g5, h⟩ := h
            refine (fun _ : Rg (x1 + 1) => i_add (cc3 c30_92) ?_) g5
            obtain ⟨g6, h⟩ := h
            obtain ⟨g7, h⟩ := h
            obtain ⟨A_2, he, hR_2, hp_2⟩ := S30 (d := d) (A := A_1) (P := P) (by omega) hW hR_1 hT hG t (tkE t (A 1 1) p) g5 ⟨g6, g7⟩
            have h := h A_2 hR_2 hp_2
            refine p_callV (cc3 c30_93) (Nat.le_of_ble_eq_true rfl) rfl rfl (Nat.le_of_ble_eq_true rfl) (wk_kd hW (by decide) (st_k hT 6 11 (by decide))) he ?_
            refine p_ald (cc3 c30_96) rfl ?_
            refine i_push (n := (-300)) (cc3 c30_97) zl_m300 ?_
            obtain ⟨g8, h⟩ := h
            refine p_callV (cc3 c30_100) (Nat.le_of_ble_eq_true rfl) rfl rfl (Nat.le_of_ble_eq_true rfl) (wk_kd hW (by decide) (st_k hT 6 11 (by decide))) (S31 (d := d) (by omega) hW hR_2 hT hG (by decide : Rg (-300 : Int)) g8) ?_
            refine p_goto (cc3 c30_103) ?_
            refine p_lc (ls' := []) c30_148 rfl rfl ?_
            exact p_rv (cct c30_148 rfl) h
        · have h := h.2 c
          refine p_ald (cc3 c30_106) rfl ?_
          refine w_geti hW (v := A 6 4) (cc3 c30_107) (st_k hT 6 11 (by decide)) (ji := 4) rfl rfl ?_
          refine i_push (n := 40) (cc3 c30_110) zl_40 ?_
          refine i_icmp (c' := (A 6 4) = 40) (cc3 c30_112) (iz_inj (hR 6 4) (by decide : Rg (40 : Int))) (fun c => ?_) (fun c => ?_)
          · have h := h.1 c
            refine p_ald (cc3 c30_115) rfl ?_
            refine p_ild (cc3 c30_116) rfl ?_
            refine p_callV (cc3 c30_117) (Nat.le_of_ble_eq_true rfl) rfl rfl (Nat.le_of_ble_eq_true rfl) (wk_kd hW (by decide) (st_k hT 6 11 (by decide))) (S32 (d := d) (by omega) hW hR hT hG rr) ?_
            refine i_ifB (cc3 c30_120) (fun c => ?_) (fun c => ?_)
            · have h := h.1 c
              refine p_lc (ls' := []) c30_148 rfl rfl ?_
              exact p_rv (cct c30_148 rfl) h
            · have h := h.2 c
              refine p_ald (cc3 c30_123) rfl ?_
              obtain ⟨g1, h⟩ := h
              obtain ⟨g2, h⟩ := h
              obtain ⟨g3, h⟩ := h
              obtain ⟨g4, h⟩ := h
              obtain ⟨A_1, he, hR_1, hp_1⟩ := S17 (d := d) (A := k_may A x1) (P := P) (by omega) hW (rg_may hR) hT hG t ⟨g1, g2, g3, g4⟩
              have h := h A_1 hR_1 hp_1
              refine p_callV (cc3 c30_124) (Nat.le_of_ble_eq_true rfl) rfl rfl (Nat.le_of_ble_eq_true rfl) (wk_kd hW (by decide) (st_k hT 6 11 (by decide))) he ?_
              refine p_ald (cc3 c30_127) rfl ?_
              refine i_push (n := 0) (cc3 c30_128) zl_0 ?_
              refine p_ild (cc3 c30_129) rfl ?_
              refine i_push (n := 1) (cc3 c30_130) zl_1 ?_
              obtain ⟨g5, h⟩ := h
              refine (fun _ : Rg (x1 + 1) => i_add (cc3 c30_131) ?_) g5
              obtain ⟨g6, h⟩ := h
              obtain ⟨g7, h⟩ := h
              obtain ⟨A_2, he, hR_2, hp_2⟩ := S29 (d := d) (A := A_1) (P := P) (by omega) hW hR_1 hT hG t (tkE t (A 1 1) p) ⟨(by decide : Rg (0 : Int)), g5⟩ ⟨g6, g7⟩
              have h := h A_2 hR_2 hp_2
              refine p_callV (cc3 c30_132) (Nat.le_of_ble_eq_true rfl) rfl rfl (Nat.le_of_ble_eq_true rfl) (wk_kd hW (by decide) (st_k hT 6 11 (by decide))) he ?_
              refine p_ald (cc3 c30_135) rfl ?_
              refine i_push (n := 41) (cc3 c30_136) zl_41 ?_
              obtain ⟨g8, h⟩ := h
              obtain ⟨g9, h⟩ := h
              obtain ⟨g10, h⟩ := h
              obtain ⟨A_3, he, hR_3, hp_3⟩ := S27 (d := d) (A := A_2) (P := P) (by omega) hW hR_2 hT hG t (by decide : Rg (41 : Int)) ⟨g8, g9, g3, g10⟩
              have h := h A_3 hR_3 hp_3
              refine p_callV (cc3 c30_138) (Nat.le_of_ble_eq_true rfl) rfl rfl (Nat.le_of_ble_eq_true rfl) (wk_kd hW (by decide) (st_k hT 6 11 (by decide))) he ?_
              refine p_goto (cc3 c30_141) ?_
              refine p_lc (ls' := []) c30_148 rfl rfl ?_
              exact p_rv (cct c30_148 rfl) h
          · have h := h.2 c
            refine p_ald (cc3 c30_144) rfl ?_
            refine p_callV (cc3 c30_145) (Nat.le_of_ble_eq_true rfl) rfl rfl (Nat.le_of_ble_eq_true rfl) (wk_kd hW (by decide) (st_k hT 6 11 (by decide))) (S28 (d := d) (by omega) hW hR hT hG) ?_
            refine p_lc (ls' := []) c30_148 rfl rfl ?_
            exact p_rv (cct c30_148 rfl) h
      · have h := h.2 c
        refine p_ald (cc3 c30_45) rfl ?_
        refine i_push (n := 10000) (cc3 c30_46) zl_10000 ?_
        refine p_ald (cc3 c30_49) rfl ?_
        refine w_geti hW (v := A 6 4) (cc3 c30_50) (st_k hT 6 11 (by decide)) (ji := 4) rfl rfl ?_
        obtain ⟨g1, h⟩ := h
        refine (fun _ : Rg (10000 + (A 6 4)) => i_add (cc3 c30_53) ?_) g1
        refine i_push (n := 205) (cc3 c30_54) zl_205 ?_
        obtain ⟨g2, h⟩ := h
        refine (fun _ : Rg ((10000 + (A 6 4)) - 205) => i_sub (cc3 c30_57) ?_) g2
        obtain ⟨g3, h⟩ := h
        refine p_callV (cc3 c30_58) (Nat.le_of_ble_eq_true rfl) rfl rfl (Nat.le_of_ble_eq_true rfl) (wk_kd hW (by decide) (st_k hT 6 11 (by decide))) (S31 (d := d) (by omega) hW hR hT hG g2 g3) ?_
        refine p_ald (cc3 c30_61) rfl ?_
        obtain ⟨g4, h⟩ := h
        obtain ⟨g5, h⟩ := h
        obtain ⟨g6, h⟩ := h
        obtain ⟨g7, h⟩ := h
        obtain ⟨A_1, he, hR_1, hp_1⟩ := S17 (d := d) (A := k_emit A ((10000 + (A 6 4)) - 205)) (P := P) (by omega) hW (rg_emit hR g2 g3) hT hG t ⟨g4, g5, g6, g7⟩
        have h := h A_1 hR_1 hp_1
        refine p_callV (cc3 c30_62) (Nat.le_of_ble_eq_true rfl) rfl rfl (Nat.le_of_ble_eq_true rfl) (wk_kd hW (by decide) (st_k hT 6 11 (by decide))) he ?_
        refine p_goto (cc3 c30_65) ?_
        refine p_lc (ls' := []) c30_148 rfl rfl ?_
        exact p_rv (cct c30_148 rfl) h
theorem ExQ.fin {A A' : Nat → Int → Int} {t : Int → Int} {r : Rr} {L : List Int} (e8 : A 6 8 = -1) (hF : Fo 6 [7] [1, 4, 5, 6, 7, 8] A A') (hb : 0 ≤ A' 6 1 ∧ A' 6 1 ≤ 160) (h1 : r.1 = true → A' 6 8 = -1 ∧ KCur A' t (A 1 1) r.2.1 ∧ A' 6 1 = A 6 1 + (L.length : Int) ∧ (∀ i : Int, i < A 6 1 → A' 7 i = A 7 i) ∧ CdI A' (A 6 1) L) (h2 : ¬ r.1 = true → A' 6 8 = tkB t (A 1 1) r.2.1 ∧ A' 6 4 = 402) : ExQ t (if r.1 = true then (true, r.2.1, L) else (false, r.2.1, [])) A A' := by
  by_cases c : r.1 = true
  · rw [if_pos c]; exact ⟨hF, hb, fun _ => ⟨fun _ => h1 c, fun q => absurd rfl q⟩, fun q => by omega⟩
  · rw [if_neg c]; exact ⟨hF, hb, fun _ => ⟨fun q => ffq q, fun _ => h2 c⟩, fun q => by omega⟩
theorem ExI.g7 {A : Nat → Int → Int} {P : Nat → Int → Nat} {t : Int → Int} {p : Int} (h : ExI A P t p) (hc : ¬ A 6 4 = 402 ∧ ¬ A 6 4 = 401) : 0 ≤ A 6 7 ∧ A 6 7 ≤ A 1 1 ∧ A 6 7 = tkE t (A 1 1) p ∧ p < A 6 7 ∧ 0 ≤ p ∧ A 6 1 ≤ p := by
  obtain ⟨g1, g2, g3, g4, g5⟩ := h.good hc.1
  have c401 : ¬ tkC t (A 1 1) p = 401 := by rw [← g5]; exact hc.2
  have ta := tok_adv (t := t) g3.2 c401
  have e := g2.2.2.1 c401
  omega
theorem ExI.of {A A1 : Nat → Int → Int} {P : Nat → Int → Nat} {t : Int → Int} {p q : Int} {o : List Int} (h : ExI A P t p) (e8 : A 6 8 = -1) (h1 : ExQ t (true, q, o) A A1) (hq : 0 ≤ q ∧ q ≤ A 1 1) (h2 : A1 6 1 ≤ q) : ExI A1 P t q ∧ A1 1 1 = A 1 1 ∧ A1 6 8 = -1 := by
  obtain ⟨f1, f2, f3, -⟩ := h1
  obtain ⟨y1, y2, y3, y4⟩ := f1.c1 (by decide) (by decide) (by decide)
  obtain ⟨z1, z2, z3, z4, z5⟩ := (f3 e8).1 rfl
  have e11 : A1 1 1 = A 1 1 := by rw [y1]
  exact ⟨⟨y3 t h.1, y4 h.2.1, h.2.2.1, f2, Or.inl ⟨z1, by rw [e11]; exact z2, by rw [e11]; exact hq, h2⟩⟩, e11, z1⟩
theorem ExQ.one {A A1 : Nat → Int → Int} {P : Nat → Int → Nat} {t : Int → Int} {p w : Int} (h : ExI A P t p) (hc : ¬ A 6 4 = 402 ∧ ¬ A 6 4 = 401) (h1 : (¬ (k_emit A w) 6 8 = -1 → A1 = k_emit A w) ∧ ((k_emit A w) 6 8 = -1 → Fo 6 [] [4, 5, 6, 7] (k_emit A w) A1 ∧ KCur A1 t ((k_emit A w) 1 1) ((k_emit A w) 6 7))) : ExQ t (true, tkE t (A 1 1) p, [w]) A A1 := by
  have g7 := h.g7 hc
  have hn := h.1.1
  have hb := h.2.2.2.1
  have ke : k_emit A w = UA (UA A 7 (A 6 1) w) 6 1 (A 6 1 + 1) := by unfold k_emit; rw [if_pos (by omega)]
  have e61 : (k_emit A w) 6 1 = A 6 1 + 1 := by rw [ke]; exact UA_eq
  obtain ⟨n1, n2, n3, n4, n5, n6, n7, n8, n9⟩ := h.nx hc fo_emit (by rw [e61]; omega) h1
  have g := h.good hc.1
  have n10 := n1.2.2.2.2
  rw [n4] at n10
  refine ⟨n6, by omega, fun _ => ⟨fun _ => ⟨n2, ?_, by rw [n3, e61]; rfl, fun i hi => ?_, fun i hi => ?_⟩, fun q => absurd rfl q⟩, fun q => by omega⟩
  · rcases n10 with q | q
    · exact q.2.1
    · omega
  · rw [n5, ke, UA_c (by decide), UA_j (by omega)]
  · have : i = 0 := by simpa using hi
    subst this
    rw [n5, ke, UA_c (by decide)]
    show UA A 7 (A 6 1) w 7 (A 6 1 + 0) = w
    rw [Int.add_zero, UA_eq]
theorem emit_g {A : Nat → Int → Int} {P : Nat → Int → Nat} {t : Int → Int} {p w : Int} (h : ExI A P t p) (hc : ¬ A 6 4 = 402 ∧ ¬ A 6 4 = 401) : TpR (k_emit A w) t ∧ StrA (k_emit A w) ∧ ((k_emit A w) 6 8 = -1 → 0 ≤ (k_emit A w) 6 7 ∧ (k_emit A w) 6 7 ≤ (k_emit A w) 1 1) := by
  obtain ⟨y1, y2, y3, y4⟩ := (fo_emit (A := A) (w := w)).c1 (by decide) (by decide) (by decide)
  have g7 := h.g7 hc
  have e7 : (k_emit A w) 6 7 = A 6 7 := fo_emit.2 7 (by decide)
  exact ⟨y3 t h.1, y4 h.2.1, fun _ => by rw [e7, y1]; omega⟩
theorem E30 {f : Nat} (S29 : ∀ {d : Nat} (hd : 2 * f + 9 ≤ d) {W : gW} (hW : HW W) {A : Nat → Int → Int} {P : Nat → Int → Nat} (hR : RG A) (hT : Stat W P) (hG : GL W) (t : Int → Int) (p : Int) {x1 x2 : Int} (rr : Rg x1 ∧ Rg x2) (hp : (ExI A P t p) ∧ (ExO f x1 x2)), ∃ (A' : Nat → Int → Int), xev xT d 29 [.ref (lo W 6), .int (iz x1), .int (iz x2)] (Wm W A P) none (Wm W A' P) ∧ RG A' ∧ (ExQ t (rdE t (A 1 1) f x1 x2 p) A A')) (S30 : ∀ {d : Nat} (hd : 2 * f + 8 ≤ d) {W : gW} (hW : HW W) {A : Nat → Int → Int} {P : Nat → Int → Nat} (hR : RG A) (hT : Stat W P) (hG : GL W) (t : Int → Int) (p : Int) {x1 : Int} (rr : Rg x1) (hp : (ExI A P t p) ∧ (ExO f 5 x1)), ∃ (A' : Nat → Int → Int), xev xT d 30 [.ref (lo W 6), .int (iz x1)] (Wm W A P) none (Wm W A' P) ∧ RG A' ∧ (ExQ t (rdE t (A 1 1) f 5 x1 p) A A')) : ∀ {d : Nat} (hd : 2 * (f + 1) + 8 ≤ d) {W : gW} (hW : HW W) {A : Nat → Int → Int} {P : Nat → Int → Nat} (hR : RG A) (hT : Stat W P) (hG : GL W) (t : Int → Int) (p : Int) {x1 : Int} (rr : Rg x1) (hp : (ExI A P t p) ∧ (ExO (f + 1) 5 x1)), ∃ (A' : Nat → Int → Int), xev xT d 30 [.ref (lo W 6), .int (iz x1)] (Wm W A P) none (Wm W A' P) ∧ RG A' ∧ (ExQ t (rdE t (A 1 1) (f + 1) 5 x1 p) A A') := by
  intro d hd W hW A P hR hT hG t p x1 rr hp
  obtain ⟨hp1, hp2⟩ := hp
  obtain ⟨-, o2, o3⟩ := hp2
  refine xev_g (i := 30) (as := [.ref (lo W 6), .int (iz x1)]) (σ := Wm W A P) (Q := fun r_ σ_ => ∃ (A' : Nat → Int → Int), r_ = none ∧ σ_ = Wm W A' P ∧ RG A' ∧ (ExQ t (rdE t (A 1 1) (f + 1) 5 x1 p) A A')) (D := 2 * f + 9) (by omega) (Nat.le_of_ble_eq_true rfl) (fun r_ σ_ he hq => ?_) (fun d hd => V30_0 hd S29 S30 hW hR hT hG (t := t) (p := p) rr ?_)
  · obtain ⟨A', rfl, rfl, hq⟩ := hq
    exact ⟨A', he, hq⟩
  have num : ∀ w : Int, A 6 4 = 400 ∧ w = A 6 5 ∨ (205 ≤ A 6 4 ∧ A 6 4 ≤ 210 ∧ w = 10000 + A 6 4 - 205) → ∀ A1 : Nat → Int → Int, ((¬ (k_emit A w) 6 8 = -1 → A1 = k_emit A w) ∧ ((k_emit A w) 6 8 = -1 → Fo 6 [] [4, 5, 6, 7] (k_emit A w) A1 ∧ KCur A1 t ((k_emit A w) 1 1) ((k_emit A w) 6 7))) → ExQ t (rdE t (A 1 1) (f + 1) 5 x1 p) A A1 := by
    intro w hw A1 h1
    have hc : ¬ A 6 4 = 402 ∧ ¬ A 6 4 = 401 := by omega
    have g := hp1.good hc.1
    have er : rdE t (A 1 1) (f + 1) 5 x1 p = (true, tkE t (A 1 1) p, [w]) := by
      show (if (5 : Int) ≤ 5 then _ else _) = _
      rw [if_pos (by decide)]
      rcases hw with q | q
      · rw [if_pos (by omega), q.2, g.2.1.2.2.2 (by omega)]
      · rw [if_neg (by omega), if_pos (by omega), q.2.2, show 10000 + (tkC t (A 1 1) p - 205) = 10000 + A 6 4 - 205 by omega]
    rw [er]
    exact ExQ.one hp1 hc h1
  have h61 := hp1.2.2.2.1
  refine ⟨fun c => ?_, fun c => ⟨fun c1 => ?_, fun c1 => ⟨fun c2 => ?_, fun c2 => ?_⟩⟩⟩
  · obtain ⟨m1, m2, m3⟩ := emit_g (w := A 6 5) hp1 (by omega)
    exact ⟨h61.1, m1, m2, hp1.2.2.1, m3, fun A1 hR1 h1 => ⟨A1, rfl, rfl, hR1, num _ (Or.inl ⟨c, rfl⟩) A1 h1⟩⟩
  · refine ⟨fun c45 => ?_, fun c45 => ⟨fun c40 => ?_, fun c40 => ?_⟩⟩
    · have hc : ¬ A 6 4 = 402 ∧ ¬ A 6 4 = 401 := by omega
      have g := hp1.good hc.1
      have g7 := hp1.g7 hc
      have er : rdE t (A 1 1) (f + 1) 5 x1 p = if 5 ≤ x1 then (false, p, []) else if (rdE t (A 1 1) f 5 (x1 + 1) (tkE t (A 1 1) p)).1 = true then (true, (rdE t (A 1 1) f 5 (x1 + 1) (tkE t (A 1 1) p)).2.1, (rdE t (A 1 1) f 5 (x1 + 1) (tkE t (A 1 1) p)).2.2 ++ [-300]) else (false, (rdE t (A 1 1) f 5 (x1 + 1) (tkE t (A 1 1) p)).2.1, []) := by
        have e : tkC t (A 1 1) p = 45 := by omega
        show (if (5 : Int) ≤ 5 then _ else _) = _
        rw [if_pos (by decide), if_neg (by omega), if_neg (by omega), if_pos e]
      refine ⟨fun c5 => ?_, fun c5 => ?_⟩
      · rw [may_f c5]
        refine ⟨_, rfl, rfl, rg_fail hR, ?_⟩
        rw [er, if_pos (by omega)]
        exact ExQ.bad hp1 _
      · rw [may_e c5]
        refine ⟨hp1.1, hp1.2.1, hp1.2.2.1, fun _ => by omega, fun A1 hR1 h1 => ?_⟩
        obtain ⟨n1, n2, n3, n4, n5, n6, n7, n8, n9⟩ := hp1.nx hc Fo.rf (by omega) h1
        refine ⟨⟨by omega, by omega⟩, n1, ⟨by omega, by omega, by omega⟩, fun A2 hR2 h2 => ?_⟩
        rw [n4] at h2
        have ap := ExQ.app (w := -300) (L0 := []) hp1.1.1.2 ⟨g.1, n2⟩ n4 n6 hp1.2.2.2.1.1 (by rw [n3]; exact (Int.add_zero _).symm) (by omega) ⟨fun i hi => by rw [n5], fun i hi => absurd hi (Nat.not_lt_zero i)⟩ (rdE_ok (t := t) f 5 (x1 + 1) (tkE t (A 1 1) p) (by decide) (by omega) n7.2.2) h2
        refine ⟨ap.2.2.1, _, rfl, rfl, rg_emit hR2 (by decide) ap.2.2.1, ?_⟩
        rw [er, if_neg (by omega)]
        exact ExQ.fin g.1 ap.1 ap.2.1 (fun q => ⟨(ap.2.2.2.1 q).1, (ap.2.2.2.1 q).2.1, (ap.2.2.2.1 q).2.2.1, (ap.2.2.2.1 q).2.2.2.1, (ap.2.2.2.1 q).2.2.2.2.1⟩) (fun q => ⟨(ap.2.2.2.2 q).1, (ap.2.2.2.2 q).2.1⟩)
    · have hc : ¬ A 6 4 = 402 ∧ ¬ A 6 4 = 401 := by omega
      have g := hp1.good hc.1
      have g7 := hp1.g7 hc
      have er : rdE t (A 1 1) (f + 1) 5 x1 p = if 5 ≤ x1 then (false, p, []) else if (rdE t (A 1 1) f 0 (x1 + 1) (tkE t (A 1 1) p)).1 = true then (if tkC t (A 1 1) (rdE t (A 1 1) f 0 (x1 + 1) (tkE t (A 1 1) p)).2.1 = 41 then (true, tkE t (A 1 1) (rdE t (A 1 1) f 0 (x1 + 1) (tkE t (A 1 1) p)).2.1, (rdE t (A 1 1) f 0 (x1 + 1) (tkE t (A 1 1) p)).2.2) else (false, (rdE t (A 1 1) f 0 (x1 + 1) (tkE t (A 1 1) p)).2.1, [])) else (false, (rdE t (A 1 1) f 0 (x1 + 1) (tkE t (A 1 1) p)).2.1, []) := by
        have e : tkC t (A 1 1) p = 40 := by omega
        show (if (5 : Int) ≤ 5 then _ else _) = _
        rw [if_pos (by decide), if_neg (by omega), if_neg (by omega), if_neg (by omega), if_pos e]
      refine ⟨fun c5 => ?_, fun c5 => ?_⟩
      · rw [may_f c5]
        refine ⟨_, rfl, rfl, rg_fail hR, ?_⟩
        rw [er, if_pos (by omega)]
        exact ExQ.bad hp1 _
      · rw [may_e c5]
        refine ⟨hp1.1, hp1.2.1, hp1.2.2.1, fun _ => by omega, fun A1 hR1 h1 => ?_⟩
        obtain ⟨n1, n2, n3, n4, n5, n6, n7, n8, n9⟩ := hp1.nx hc Fo.rf (by omega) h1
        refine ⟨⟨by omega, by omega⟩, n1, ⟨by omega, by omega, by omega⟩, fun A2 hR2 h2 => ?_⟩
        rw [n4] at h2
        rw [er, if_neg (by omega)]
        have hsub := rdE_ok (t := t) (n := A 1 1) f 0 (x1 + 1) (tkE t (A 1 1) p) (by decide) (by omega) n7.2.2
        generalize rdE t (A 1 1) f 0 (x1 + 1) (tkE t (A 1 1) p) = r at h2 hsub ⊢
        obtain ⟨q1, q2, q3, q4⟩ := h2
        have q3' := q3 n2
        obtain ⟨y1, y2, y3, y4⟩ := q1.c1 (by decide) (by decide) (by decide)
        have e11 : A2 1 1 = A 1 1 := by rw [y1]; exact n4
        rw [n4] at q3'
        have FA : Fo 6 [7] [1, 4, 5, 6, 7, 8] A A2 := n6.tr q1
        by_cases cr : r.1 = true
        · obtain ⟨z1, z2, z3, z4, z5⟩ := q3'.1 cr
          obtain ⟨s1, s2, s3, -⟩ := hsub.1 cr
          have hI : ExI A2 P t r.2.1 := ⟨y3 t n1.1, y4 n1.2.1, n1.2.2.1, q2, Or.inl ⟨z1, by rw [e11]; exact z2, by rw [e11]; omega, by omega⟩⟩
          refine ⟨hI.1, hI.2.1, fun _ c => ?_, fun A3 hR3 h3 => ⟨A3, rfl, rfl, hR3, ?_⟩⟩
          · have hne : ¬ A2 6 4 = 402 ∨ A2 6 4 = 402 := by omega
            have ta := tkE_b (t := t) (n := A 1 1) (p := r.2.1) s2
            have e4 : A2 6 4 = tkC t (A 1 1) r.2.1 := z2.2.1
            have e7 := z2.2.2.1 (by rw [← e4]; exact c)
            rw [e7, e11]; omega
          · rw [if_pos cr]
            have e4 : A2 6 4 = tkC t (A 1 1) r.2.1 := z2.2.1
            by_cases c41 : tkC t (A 1 1) r.2.1 = 41
            · rw [if_pos c41]
              have h4 := (h3.1 (by omega)).2 (by decide)
              obtain ⟨m1, m2, m3, m4, m5, m6, m7, m8, m9⟩ := hI.nx (by omega) Fo.rf (by omega) h4
              have m10 := m1.2.2.2.2
              rw [m4, e11] at m10
              refine ⟨FA.tr m6, by omega, fun _ => ⟨fun _ => ⟨m2, ?_, by rw [m3, z3, n3], fun i hi => by rw [m5, z4 i (by omega), n5], fun i hi => ?_⟩, fun q => absurd rfl q⟩, fun q => by omega⟩
              · rcases m10 with q | q
                · exact q.2.1
                · omega
              · have := z5 i hi
                rw [n3] at this
                rw [m5]; exact this
            · rw [if_neg c41]
              have h4 := h3.2 (by omega)
              subst h4
              have hb := ExQ.bad hI []
              obtain ⟨b1, b2, b3, -⟩ := hb
              have b4 := (b3 z1).2 (by simp)
              rw [e11] at b4
              exact ⟨FA.tr b1, b2, fun _ => ⟨fun q => ffq q, fun _ => b4⟩, fun q => by omega⟩
        · obtain ⟨z1, z2⟩ := q3'.2 cr
          have s1 := hsub.2 cr
          have hbB := tkE_b (t := t) (n := A 1 1) (p := r.2.1) s1.2
          have hI : ExI A2 P t r.2.1 := ⟨y3 t n1.1, y4 n1.2.1, n1.2.2.1, q2, Or.inr ⟨by omega, z2⟩⟩
          refine ⟨hI.1, hI.2.1, fun q => by omega, fun A3 hR3 h3 => ⟨A3, rfl, rfl, hR3, ?_⟩⟩
          rw [if_neg cr]
          have h4 := h3.2 (by omega)
          subst h4
          obtain ⟨b1, b2, -, b4⟩ := ExQ.bad hI []
          have b5 := b4 (by omega)
          exact ⟨FA.tr b1, b2, fun _ => ⟨fun q => ffq q, fun _ => ⟨b5.1.trans z1, b5.2⟩⟩, fun q => by omega⟩
    · refine ⟨_, rfl, rfl, rg_fail hR, ?_⟩
      by_cases hc : A 6 4 = 402
      · by_cases e8 : A 6 8 = -1
        · have g : A 6 4 = tkC t (A 1 1) p := by
            rcases hp1.2.2.2.2 with q | q
            · exact q.2.1.2.1
            · omega
          have er : rdE t (A 1 1) (f + 1) 5 x1 p = (false, p, []) := by
            show (if (5 : Int) ≤ 5 then _ else _) = _
            rw [if_pos (by decide), if_neg (by omega), if_neg (by omega), if_neg (by omega), if_neg (by omega)]
          rw [er]; exact ExQ.bad hp1 _
        · obtain ⟨b1, b2, -, b4⟩ := ExQ.bad hp1 []
          exact ⟨b1, b2, fun q => absurd q e8, b4⟩
      · have g := hp1.good hc
        have er : rdE t (A 1 1) (f + 1) 5 x1 p = (false, p, []) := by
          show (if (5 : Int) ≤ 5 then _ else _) = _
          rw [if_pos (by decide), if_neg (by omega), if_neg (by omega), if_neg (by omega), if_neg (by omega)]
        rw [er]; exact ExQ.bad hp1 _
  · refine ⟨fun c45 => ?_, fun c45 => ⟨fun c40 => ?_, fun c40 => ?_⟩⟩
    · have hc : ¬ A 6 4 = 402 ∧ ¬ A 6 4 = 401 := by omega
      have g := hp1.good hc.1
      have g7 := hp1.g7 hc
      have er : rdE t (A 1 1) (f + 1) 5 x1 p = if 5 ≤ x1 then (false, p, []) else if (rdE t (A 1 1) f 5 (x1 + 1) (tkE t (A 1 1) p)).1 = true then (true, (rdE t (A 1 1) f 5 (x1 + 1) (tkE t (A 1 1) p)).2.1, (rdE t (A 1 1) f 5 (x1 + 1) (tkE t (A 1 1) p)).2.2 ++ [-300]) else (false, (rdE t (A 1 1) f 5 (x1 + 1) (tkE t (A 1 1) p)).2.1, []) := by
        have e : tkC t (A 1 1) p = 45 := by omega
        show (if (5 : Int) ≤ 5 then _ else _) = _
        rw [if_pos (by decide), if_neg (by omega), if_neg (by omega), if_pos e]
      refine ⟨fun c5 => ?_, fun c5 => ?_⟩
      · rw [may_f c5]
        refine ⟨_, rfl, rfl, rg_fail hR, ?_⟩
        rw [er, if_pos (by omega)]
        exact ExQ.bad hp1 _
      · rw [may_e c5]
        refine ⟨hp1.1, hp1.2.1, hp1.2.2.1, fun _ => by omega, fun A1 hR1 h1 => ?_⟩
        obtain ⟨n1, n2, n3, n4, n5, n6, n7, n8, n9⟩ := hp1.nx hc Fo.rf (by omega) h1
        refine ⟨⟨by omega, by omega⟩, n1, ⟨by omega, by omega, by omega⟩, fun A2 hR2 h2 => ?_⟩
        rw [n4] at h2
        have ap := ExQ.app (w := -300) (L0 := []) hp1.1.1.2 ⟨g.1, n2⟩ n4 n6 hp1.2.2.2.1.1 (by rw [n3]; exact (Int.add_zero _).symm) (by omega) ⟨fun i hi => by rw [n5], fun i hi => absurd hi (Nat.not_lt_zero i)⟩ (rdE_ok (t := t) f 5 (x1 + 1) (tkE t (A 1 1) p) (by decide) (by omega) n7.2.2) h2
        refine ⟨ap.2.2.1, _, rfl, rfl, rg_emit hR2 (by decide) ap.2.2.1, ?_⟩
        rw [er, if_neg (by omega)]
        exact ExQ.fin g.1 ap.1 ap.2.1 (fun q => ⟨(ap.2.2.2.1 q).1, (ap.2.2.2.1 q).2.1, (ap.2.2.2.1 q).2.2.1, (ap.2.2.2.1 q).2.2.2.1, (ap.2.2.2.1 q).2.2.2.2.1⟩) (fun q => ⟨(ap.2.2.2.2 q).1, (ap.2.2.2.2 q).2.1⟩)
    · have hc : ¬ A 6 4 = 402 ∧ ¬ A 6 4 = 401 := by omega
      have g := hp1.good hc.1
      have g7 := hp1.g7 hc
      have er : rdE t (A 1 1) (f + 1) 5 x1 p = if 5 ≤ x1 then (false, p, []) else if (rdE t (A 1 1) f 0 (x1 + 1) (tkE t (A 1 1) p)).1 = true then (if tkC t (A 1 1) (rdE t (A 1 1) f 0 (x1 + 1) (tkE t (A 1 1) p)).2.1 = 41 then (true, tkE t (A 1 1) (rdE t (A 1 1) f 0 (x1 + 1) (tkE t (A 1 1) p)).2.1, (rdE t (A 1 1) f 0 (x1 + 1) (tkE t (A 1 1) p)).2.2) else (false, (rdE t (A 1 1) f 0 (x1 + 1) (tkE t (A 1 1) p)).2.1, [])) else (false, (rdE t (A 1 1) f 0 (x1 + 1) (tkE t (A 1 1) p)).2.1, []) := by
        have e : tkC t (A 1 1) p = 40 := by omega
        show (if (5 : Int) ≤ 5 then _ else _) = _
        rw [if_pos (by decide), if_neg (by omega), if_neg (by omega), if_neg (by omega), if_pos e]
      refine ⟨fun c5 => ?_, fun c5 => ?_⟩
      · rw [may_f c5]
        refine ⟨_, rfl, rfl, rg_fail hR, ?_⟩
        rw [er, if_pos (by omega)]
        exact ExQ.bad hp1 _
      · rw [may_e c5]
        refine ⟨hp1.1, hp1.2.1, hp1.2.2.1, fun _ => by omega, fun A1 hR1 h1 => ?_⟩
        obtain ⟨n1, n2, n3, n4, n5, n6, n7, n8, n9⟩ := hp1.nx hc Fo.rf (by omega) h1
        refine ⟨⟨by omega, by omega⟩, n1, ⟨by omega, by omega, by omega⟩, fun A2 hR2 h2 => ?_⟩
        rw [n4] at h2
        rw [er, if_neg (by omega)]
        have hsub := rdE_ok (t := t) (n := A 1 1) f 0 (x1 + 1) (tkE t (A 1 1) p) (by decide) (by omega) n7.2.2
        generalize rdE t (A 1 1) f 0 (x1 + 1) (tkE t (A 1 1) p) = r at h2 hsub ⊢
        obtain ⟨q1, q2, q3, q4⟩ := h2
        have q3' := q3 n2
        obtain ⟨y1, y2, y3, y4⟩ := q1.c1 (by decide) (by decide) (by decide)
        have e11 : A2 1 1 = A 1 1 := by rw [y1]; exact n4
        rw [n4] at q3'
        have FA : Fo 6 [7] [1, 4, 5, 6, 7, 8] A A2 := n6.tr q1
        by_cases cr : r.1 = true
        · obtain ⟨z1, z2, z3, z4, z5⟩ := q3'.1 cr
          obtain ⟨s1, s2, s3, -⟩ := hsub.1 cr
          have hI : ExI A2 P t r.2.1 := ⟨y3 t n1.1, y4 n1.2.1, n1.2.2.1, q2, Or.inl ⟨z1, by rw [e11]; exact z2, by rw [e11]; omega, by omega⟩⟩
          refine ⟨hI.1, hI.2.1, fun _ c => ?_, fun A3 hR3 h3 => ⟨A3, rfl, rfl, hR3, ?_⟩⟩
          · have hne : ¬ A2 6 4 = 402 ∨ A2 6 4 = 402 := by omega
            have ta := tkE_b (t := t) (n := A 1 1) (p := r.2.1) s2
            have e4 : A2 6 4 = tkC t (A 1 1) r.2.1 := z2.2.1
            have e7 := z2.2.2.1 (by rw [← e4]; exact c)
            rw [e7, e11]; omega
          · rw [if_pos cr]
            have e4 : A2 6 4 = tkC t (A 1 1) r.2.1 := z2.2.1
            by_cases c41 : tkC t (A 1 1) r.2.1 = 41
            · rw [if_pos c41]
              have h4 := (h3.1 (by omega)).2 (by decide)
              obtain ⟨m1, m2, m3, m4, m5, m6, m7, m8, m9⟩ := hI.nx (by omega) Fo.rf (by omega) h4
              have m10 := m1.2.2.2.2
              rw [m4, e11] at m10
              refine ⟨FA.tr m6, by omega, fun _ => ⟨fun _ => ⟨m2, ?_, by rw [m3, z3, n3], fun i hi => by rw [m5, z4 i (by omega), n5], fun i hi => ?_⟩, fun q => absurd rfl q⟩, fun q => by omega⟩
              · rcases m10 with q | q
                · exact q.2.1
                · omega
              · have := z5 i hi
                rw [n3] at this
                rw [m5]; exact this
            · rw [if_neg c41]
              have h4 := h3.2 (by omega)
              subst h4
              have hb := ExQ.bad hI []
              obtain ⟨b1, b2, b3, -⟩ := hb
              have b4 := (b3 z1).2 (by simp)
              rw [e11] at b4
              exact ⟨FA.tr b1, b2, fun _ => ⟨fun q => ffq q, fun _ => b4⟩, fun q => by omega⟩
        · obtain ⟨z1, z2⟩ := q3'.2 cr
          have s1 := hsub.2 cr
          have hbB := tkE_b (t := t) (n := A 1 1) (p := r.2.1) s1.2
          have hI : ExI A2 P t r.2.1 := ⟨y3 t n1.1, y4 n1.2.1, n1.2.2.1, q2, Or.inr ⟨by omega, z2⟩⟩
          refine ⟨hI.1, hI.2.1, fun q => by omega, fun A3 hR3 h3 => ⟨A3, rfl, rfl, hR3, ?_⟩⟩
          rw [if_neg cr]
          have h4 := h3.2 (by omega)
          subst h4
          obtain ⟨b1, b2, -, b4⟩ := ExQ.bad hI []
          have b5 := b4 (by omega)
          exact ⟨FA.tr b1, b2, fun _ => ⟨fun q => ffq q, fun _ => ⟨b5.1.trans z1, b5.2⟩⟩, fun q => by omega⟩
    · refine ⟨_, rfl, rfl, rg_fail hR, ?_⟩
      by_cases hc : A 6 4 = 402
      · by_cases e8 : A 6 8 = -1
        · have g : A 6 4 = tkC t (A 1 1) p := by
            rcases hp1.2.2.2.2 with q | q
            · exact q.2.1.2.1
            · omega
          have er : rdE t (A 1 1) (f + 1) 5 x1 p = (false, p, []) := by
            show (if (5 : Int) ≤ 5 then _ else _) = _
            rw [if_pos (by decide), if_neg (by omega), if_neg (by omega), if_neg (by omega), if_neg (by omega)]
          rw [er]; exact ExQ.bad hp1 _
        · obtain ⟨b1, b2, -, b4⟩ := ExQ.bad hp1 []
          exact ⟨b1, b2, fun q => absurd q e8, b4⟩
      · have g := hp1.good hc
        have er : rdE t (A 1 1) (f + 1) 5 x1 p = (false, p, []) := by
          show (if (5 : Int) ≤ 5 then _ else _) = _
          rw [if_pos (by decide), if_neg (by omega), if_neg (by omega), if_neg (by omega), if_neg (by omega)]
        rw [er]; exact ExQ.bad hp1 _
  · obtain ⟨m1, m2, m3⟩ := emit_g (w := 10000 + A 6 4 - 205) hp1 (by omega)
    exact ⟨⟨by omega, by omega⟩, ⟨by omega, by omega⟩, h61.1, m1, m2, hp1.2.2.1, m3, fun A1 hR1 h1 => ⟨A1, rfl, rfl, hR1, num _ (Or.inr ⟨by omega, by omega, rfl⟩) A1 h1⟩⟩
