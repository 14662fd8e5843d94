/-- the first place of the over apron from t on, r at most behind it -/
def ktz (A : Nat → Int → Int) (k b s : Nat) : Nat → Int → Int
  | 0, t => t
  | r + 1, t => if ¬ k_isF A b (A 8 2 + t * A s 1) (A k 7) ∧ k_kept A 0 t = A 8 4 then t else ktz A k b s r (t + 1)
theorem ktz_r {A : Nat → Int → Int} {k b s : Nat} : ∀ (r : Nat) (t : Int), t ≤ ktz A k b s r t ∧ ktz A k b s r t ≤ t + r
  | 0, t => ⟨Int.le_refl t, by show t ≤ t + 0; omega⟩
  | r + 1, t => by
    have h := ktz_r (A := A) (k := k) (b := b) (s := s) r (t + 1)
    unfold ktz
    split <;> omega
/-- the PERIODS ahead of PLEAT p -/
def kxt (A : Nat → Int → Int) (k s : Nat) (t0 : Int) : Nat → Int
  | 0 => t0
  | p + 1 => kxt A k s t0 p + ykl A k p (k_dep A k s p (kxt A k s t0 p) 3 1)
theorem dep_b {A : Nat → Int → Int} {k s : Nat} {p t : Int} : 1 ≤ k_dep A k s p t 3 1 ∧ k_dep A k s p t 3 1 ≤ 4 := by have := k_dep_r (A := A) (k := k) (s := s) (p := p) (t := t) 3 1; omega
theorem kxt_b {A : Nat → Int → Int} {k s : Nat} {t0 : Int} (h : 0 ≤ t0 ∧ t0 ≤ 3) : ∀ p : Nat, 0 ≤ kxt A k s t0 p ∧ kxt A k s t0 p ≤ 3 + 9 * p
  | 0 => by show 0 ≤ t0 ∧ t0 ≤ 3 + 9 * 0; omega
  | p + 1 => by
    have ih := kxt_b (A := A) (k := k) (s := s) h p
    have hb := ykl_b (A := A) (k := k) (p := p) (dep_b (A := A) (k := k) (s := s) (p := p) (t := kxt A k s t0 p))
    unfold kxt
    omega
theorem k_dep_c {A A' : Nat → Int → Int} {k s : Nat} {p t : Int} (ek : A' k = A k) (es : A' s = A s) (e9 : A' 9 = A 9) (e8 : A' 8 4 = A 8 4) : ∀ (r : Nat) (m : Int), k_dep A' k s p t r m = k_dep A k s p t r m
  | 0, _ => rfl
  | r + 1, m => by
    have ih := k_dep_c (p := p) (t := t) ek es e9 e8 r (m + 1)
    unfold k_dep k_cf k_kept ykl ykw
    rw [ek, es, e9, e8, ih]
abbrev TrF (A A' : Nat → Int → Int) (k : Nat) : Prop := Fo (k + 1) [k + 1 + 1, k + 1 + 2] [2, 3, 4, 5, 6] A A'
theorem TrF.e0 {W : gW} {P : Nat → Int → Nat} {A A' : Nat → Int → Int} {k b s : Nat} (hk : OKi W P A k) (hb : OBt W P A b) (hs : OSt W P A s) (hn : 29 ≤ k ∧ 29 ≤ b ∧ 29 ≤ s) (hF : TrF A A' k) : (∀ c, c < 29 → A' c = A c) ∧ A' k = A k ∧ A' b = A b ∧ A' (b + 1) = A (b + 1) ∧ A' s = A s ∧ A' (s + 3) = A (s + 3) := by
  obtain ⟨k3, -, ⟨⟨k5, ka, kb⟩, -⟩, -⟩ := hk
  obtain ⟨⟨b1, b2⟩, -⟩ := hb
  obtain ⟨⟨s6, sa, sb, sc, -⟩, -⟩ := hs
  have q : ∀ c, ¬ c = k + 1 → ¬ c = k + 1 + 1 → ¬ c = k + 1 + 2 → A' c = A c := fun c c1 c2 c3 => hF.1 c (by simp; exact ⟨c2, c3⟩) c1
  have ek := q k (by omega) (by omega) (by omega)
  have eb := q b (fun e => by rw [e] at b1; omega) (fun e => by rw [e] at b1; omega) (fun e => by rw [e] at b1; omega)
  have eb1 := q (b + 1) (fun e => by rw [e] at b2; omega) (fun e => by rw [show b = k + 1 by omega] at b1; omega) (fun e => by rw [show b = k + 1 + 1 by omega] at b1; omega)
  have es := q s (fun e => by rw [e] at s6; omega) (fun e => by rw [e] at s6; omega) (fun e => by rw [e] at s6; omega)
  have es3 := q (s + 3) (fun e => by rw [e] at sc; omega) (fun e => by rw [show s + 1 = k by omega] at sa; omega) (fun e => by rw [show s = k by omega] at s6; omega)
  exact ⟨fun c hc => q c (by omega) (by omega) (by omega), ek, eb, eb1, es, es3⟩
theorem TrF.e {W : gW} {P : Nat → Int → Nat} {A A' : Nat → Int → Int} (h : LyC W P A) (hF : TrF A A' (P 8 5 - 1)) : (∀ c, c < 29 → A' c = A c) ∧ A' (P 8 5 - 1) = A (P 8 5 - 1) ∧ A' (P 8 6 - 1) = A (P 8 6 - 1) ∧ A' (P 8 6 - 1 + 1) = A (P 8 6 - 1 + 1) ∧ A' (P 8 7 - 1) = A (P 8 7 - 1) ∧ LyC W P A' := by
  obtain ⟨q, ek, eb, eb1, es, es3⟩ := TrF.e0 h.2.1 h.2.2.1 h.2.2.2.1 h.2.2.2.2 hF
  exact ⟨q, ek, eb, eb1, es, h.1, h.2.1.c ek, h.2.2.1.c eb, h.2.2.2.1.c es es3, h.2.2.2.2⟩
abbrev TrE (A A' : Nat → Int → Int) (k s : Nat) (t0 : Int) (n : Nat) : Prop := ∀ p : Nat, p < n → A' (k + 1 + 1) p = A 10 p + kxt A k s t0 p * A s 1 ∧ ((p : Int) + 1 < A k 4 → A' (k + 1 + 2) p = k_dep A k s p (kxt A k s t0 p) 3 1)
/-- what trace leaves in A' -/
def TrS (A A' : Nat → Int → Int) (k b s : Nat) : Prop := TrF A A' k ∧ A' (k + 1) 5 = ktz A k b s 3 0 ∧ A' (k + 1) 2 = A 8 2 + ktz A k b s 3 0 * A s 1 ∧ A' (k + 1) 6 = A 8 4 - kxt A k s (ktz A k b s 3 0) ((A k 4).toNat - 1) ∧ A' (k + 1) 3 = A 8 3 + A 8 4 * A s 1 ∧ A' (k + 1) 4 = k_usd A k s (A 8 4) ∧ TrE A A' k s (ktz A k b s 3 0) (A k 4).toNat
abbrev TrB (A : Nat → Int → Int) (k : Nat) : Prop := (0 ≤ A 8 2 ∧ A 8 2 ≤ 100000) ∧ (0 ≤ A 8 3 ∧ A 8 3 ≤ 100000) ∧ (0 ≤ A 8 4 ∧ A 8 4 ≤ 1000) ∧ ∀ p : Int, 0 ≤ p → p < A k 4 → 0 ≤ A 10 p ∧ A 10 p ≤ 100000
theorem V83_0 {d : Nat} (hd : 4 ≤ d) {Q : Option Value → xM → Prop} {W : gW} (hW : HW W) {A : Nat → Int → Int} {P : Nat → Int → Nat} (hR : RG A) (hT : Stat W P) (hG : GL W) {a1 : Nat} (h : wpE (xT 83) (xev xT d) Q (2, [(0, .ref (lo W 8)), (1, .ref (lo W a1)), (2, .int (iz 0))], [], Wm W A P)) : wpE (xT 83) (xev xT d) Q (0, [(0, .ref (lo W 8)), (1, .ref (lo W a1))], [], Wm W A P) := by
  refine i_push (n := 0) (cc3 c83_0) zl_0 ?_
  refine p_ist (ls' := [(2, .int (iz 0)), (0, .ref (lo W 8)), (1, .ref (lo W a1))]) (cc3 c83_1) (by decide) rfl ?_
  exact p_lc (ls' := [(0, .ref (lo W 8)), (1, .ref (lo W a1)), (2, .int (iz 0))]) c83_2 rfl rfl h
theorem V83_2 {d : Nat} (hd : 4 ≤ d) {Q : Option Value → xM → Prop} {W : gW} (hW : HW W) {A : Nat → Int → Int} {P : Nat → Int → Nat} (hR : RG A) (hT : Stat W P) (hG : GL W) {x2 : Int} {a1 : Nat} (rr : Rg x2) (h : (((3 ≤ x2) → (gK W a1 = 5) ∧ (¬ P 8 7 = 0) ∧ (gK W (P 8 7 - 1) = 6) ∧ (Rg (x2 * ((UA A a1 5 x2) (P 8 7 - 1) 1))) ∧ (Rg (((UA A a1 5 x2) 8 2) + (x2 * ((UA A a1 5 x2) (P 8 7 - 1) 1)))) ∧ wpE (xT 83) (xev xT d) Q (59, [(0, .ref (lo W 8)), (1, .ref (lo W a1)), (2, .int (iz x2)), (3, .int (iz 0))], [], Wm W (UA (UA A a1 5 x2) a1 2 (((UA A a1 5 x2) 8 2) + (x2 * ((UA A a1 5 x2) (P 8 7 - 1) 1)))) P)) ∧ (¬ (3 ≤ x2) → (LyC W P A) ∧ (0 ≤ A 8 2 ∧ A 8 2 ≤ 100000) ∧ (0 ≤ x2 ∧ x2 ≤ 1000) ∧ ((¬ (¬ k_isF A (P 8 6 - 1) (A 8 2 + x2 * A (P 8 7 - 1) 1) (A (P 8 5 - 1) 7)) → (Rg (x2 + 1)) ∧ wpE (xT 83) (xev xT d) Q (2, [(0, .ref (lo W 8)), (1, .ref (lo W a1)), (2, .int (iz (x2 + 1)))], [], Wm W A P)) ∧ ((¬ k_isF A (P 8 6 - 1) (A 8 2 + x2 * A (P 8 7 - 1) 1) (A (P 8 5 - 1) 7)) → ((((k_kept A 0 x2) = (A 8 4)) → (gK W a1 = 5) ∧ (¬ P 8 7 = 0) ∧ (gK W (P 8 7 - 1) = 6) ∧ (Rg (x2 * ((UA A a1 5 x2) (P 8 7 - 1) 1))) ∧ (Rg (((UA A a1 5 x2) 8 2) + (x2 * ((UA A a1 5 x2) (P 8 7 - 1) 1)))) ∧ wpE (xT 83) (xev xT d) Q (59, [(0, .ref (lo W 8)), (1, .ref (lo W a1)), (2, .int (iz x2)), (3, .int (iz 0))], [], Wm W (UA (UA A a1 5 x2) a1 2 (((UA A a1 5 x2) 8 2) + (x2 * ((UA A a1 5 x2) (P 8 7 - 1) 1)))) P)) ∧ (¬ ((k_kept A 0 x2) = (A 8 4)) → (Rg (x2 + 1)) ∧ wpE (xT 83) (xev xT d) Q (2, [(0, .ref (lo W 8)), (1, .ref (lo W a1)), (2, .int (iz (x2 + 1)))], [], Wm W A P)))))))) : wpE (xT 83) (xev xT d) Q (2, [(0, .ref (lo W 8)), (1, .ref (lo W a1)), (2, .int (iz x2))], [], Wm W A P) := by
  refine p_ild (cct c83_2 rfl) rfl ?_
  refine i_push (n := 3) (cc3 c83_3) zl_3 ?_
  refine i_icmp (c' := 3 ≤ x2) (cc3 c83_4) (iz_le (by decide : Rg (3 : Int)) rr) (fun c => ?_) (fun c => ?_)
  · have h := h.1 c
    refine p_ald (cct c83_34 rfl) rfl ?_
    refine p_ild (cc3 c83_35) rfl ?_
    obtain ⟨g1, h⟩ := h
    refine id (α := Rg x2 → _) (fun _ => ?_) rr; refine w_puti hW (cc3 c83_36) g1 (ji := 5) rfl ?_
    refine p_ald (cc3 c83_39) rfl ?_
    refine p_ald (cc3 c83_40) rfl ?_
    refine w_geti hW (v := (UA A a1 5 x2) 8 2) (cc3 c83_41) (st_k hT 8 4 (by decide)) (ji := 2) rfl (by first | rfl | exact UA_eq | exact UA_j (by decide) | exact UA_c (by decide)) ?_
    refine p_ild (cc3 c83_44) rfl ?_
    refine p_ald (cc3 c83_45) rfl ?_
    obtain ⟨g2, h⟩ := h
    refine w_getp0 hW hT.1 (cc3 c83_46) (st_k hT 8 4 (by decide)) (ji := 7) rfl g2 ?_
    obtain ⟨g3, h⟩ := h
    refine w_geti hW (v := (UA A a1 5 x2) (P 8 7 - 1) 1) (cc3 c83_49) g3 (ji := 1) rfl (by first | rfl | exact UA_eq | exact UA_j (by decide) | exact UA_c (by decide)) ?_
    obtain ⟨g4, h⟩ := h
    refine (fun _ : Rg (x2 * ((UA A a1 5 x2) (P 8 7 - 1) 1)) => i_mul (cc3 c83_52) ?_) g4
    obtain ⟨g5, h⟩ := h
    refine (fun _ : Rg (((UA A a1 5 x2) 8 2) + (x2 * ((UA A a1 5 x2) (P 8 7 - 1) 1))) => i_add (cc3 c83_53) ?_) g5
    refine id (α := Rg (((UA A a1 5 x2) 8 2) + (x2 * ((UA A a1 5 x2) (P 8 7 - 1) 1))) → _) (fun _ => ?_) g5; refine w_puti hW (cc3 c83_54) g1 (ji := 2) rfl ?_
    refine i_push (n := 0) (cc3 c83_57) zl_0 ?_
    refine p_ist (ls' := [(3, .int (iz 0)), (0, .ref (lo W 8)), (1, .ref (lo W a1)), (2, .int (iz x2))]) (cc3 c83_58) (by decide) rfl ?_
    exact p_lc (ls' := [(0, .ref (lo W 8)), (1, .ref (lo W a1)), (2, .int (iz x2)), (3, .int (iz 0))]) c83_59 rfl rfl h
  · have h := h.2 c
    refine p_ald (cc3 c83_7) rfl ?_
    refine p_ild (cc3 c83_8) rfl ?_
    obtain ⟨g1, h⟩ := h
    obtain ⟨g2, h⟩ := h
    obtain ⟨g3, h⟩ := h
    refine p_callV (cc3 c83_9) (Nat.le_of_ble_eq_true rfl) rfl rfl (Nat.le_of_ble_eq_true rfl) (wk_kd hW (by decide) (st_k hT 8 4 (by decide))) (S82 (Nat.le_trans (by decide) hd) hW hR hT hG rr ⟨g1, g2, g3⟩) ?_
    refine i_ifB (cc3 c83_12) (fun c => ?_) (fun c => ?_)
    · have h := h.1 c
      obtain ⟨g4, h⟩ := h
      refine (fun _ : Rg (x2 + 1) => i_iinc (n := 1) (y := x2 + 1) (ls' := [(2, .int (iz (x2 + 1))), (0, .ref (lo W 8)), (1, .ref (lo W a1))]) (cct c83_28 rfl) (by decide) rfl zl_1 (by first | rfl | omega) rfl ?_) g4
      refine p_goto (cc3 c83_31) ?_
      exact p_lc (ls' := [(0, .ref (lo W 8)), (1, .ref (lo W a1)), (2, .int (iz (x2 + 1)))]) c83_2 rfl rfl h
    · have h := h.2 c
      refine p_ald (cc3 c83_15) rfl ?_
      refine i_push (n := 0) (cc3 c83_16) zl_0 ?_
      refine p_ild (cc3 c83_17) rfl ?_
      refine p_callV (cc3 c83_18) (Nat.le_of_ble_eq_true rfl) rfl rfl (Nat.le_of_ble_eq_true rfl) (wk_kd hW (by decide) (st_k hT 8 4 (by decide))) (S80 (Nat.le_trans (by decide) hd) hW hR hT hG ⟨(by decide : Rg (0 : Int)), rr⟩) ?_
      refine p_ald (cc3 c83_21) rfl ?_
      refine w_geti hW (v := A 8 4) (cc3 c83_22) (st_k hT 8 4 (by decide)) (ji := 4) rfl rfl ?_
      refine i_icmp (c' := (k_kept A 0 x2) = (A 8 4)) (cc3 c83_25) (iz_inj (rg_kept hR) (hR 8 4)) (fun c => ?_) (fun c => ?_)
      · have h := h.1 c
        refine p_ald (cct c83_34 rfl) rfl ?_
        refine p_ild (cc3 c83_35) rfl ?_
        obtain ⟨g4, h⟩ := h
        refine id (α := Rg x2 → _) (fun _ => ?_) rr; refine w_puti hW (cc3 c83_36) g4 (ji := 5) rfl ?_
        refine p_ald (cc3 c83_39) rfl ?_
        refine p_ald (cc3 c83_40) rfl ?_
        refine w_geti hW (v := (UA A a1 5 x2) 8 2) (cc3 c83_41) (st_k hT 8 4 (by decide)) (ji := 2) rfl (by first | rfl | exact UA_eq | exact UA_j (by decide) | exact UA_c (by decide)) ?_
        refine p_ild (cc3 c83_44) rfl ?_
        refine p_ald (cc3 c83_45) rfl ?_
        obtain ⟨g5, h⟩ := h
        refine w_getp0 hW hT.1 (cc3 c83_46) (st_k hT 8 4 (by decide)) (ji := 7) rfl g5 ?_
        obtain ⟨g6, h⟩ := h
        refine w_geti hW (v := (UA A a1 5 x2) (P 8 7 - 1) 1) (cc3 c83_49) g6 (ji := 1) rfl (by first | rfl | exact UA_eq | exact UA_j (by decide) | exact UA_c (by decide)) ?_
        obtain ⟨g7, h⟩ := h
        refine (fun _ : Rg (x2 * ((UA A a1 5 x2) (P 8 7 - 1) 1)) => i_mul (cc3 c83_52) ?_) g7
        obtain ⟨g8, h⟩ := h
        refine (fun _ : Rg (((UA A a1 5 x2) 8 2) + (x2 * ((UA A a1 5 x2) (P 8 7 - 1) 1))) => i_add (cc3 c83_53) ?_) g8
        refine id (α := Rg (((UA A a1 5 x2) 8 2) + (x2 * ((UA A a1 5 x2) (P 8 7 - 1) 1))) → _) (fun _ => ?_) g8; refine w_puti hW (cc3 c83_54) g4 (ji := 2) rfl ?_
        refine i_push (n := 0) (cc3 c83_57) zl_0 ?_
        refine p_ist (ls' := [(3, .int (iz 0)), (0, .ref (lo W 8)), (1, .ref (lo W a1)), (2, .int (iz x2))]) (cc3 c83_58) (by decide) rfl ?_
        exact p_lc (ls' := [(0, .ref (lo W 8)), (1, .ref (lo W a1)), (2, .int (iz x2)), (3, .int (iz 0))]) c83_59 rfl rfl h
      · have h := h.2 c
        obtain ⟨g4, h⟩ := h
        refine (fun _ : Rg (x2 + 1) => i_iinc (n := 1) (y := x2 + 1) (ls' := [(2, .int (iz (x2 + 1))), (0, .ref (lo W 8)), (1, .ref (lo W a1))]) (cct c83_28 rfl) (by decide) rfl zl_1 (by first | rfl | omega) rfl ?_) g4
        refine p_goto (cc3 c83_31) ?_
        exact p_lc (ls' := [(0, .ref (lo W 8)), (1, .ref (lo W a1)), (2, .int (iz (x2 + 1)))]) c83_2 rfl rfl h
theorem V83_59 {d : Nat} (hd : 4 ≤ d) {Q : Option Value → xM → Prop} {W : gW} (hW : HW W) {A : Nat → Int → Int} {P : Nat → Int → Nat} (hR : RG A) (hT : Stat W P) (hG : GL W) {x2 x3 : Int} {a1 : Nat} (rr : Rg x2 ∧ Rg x3) (h : (gK W a1 = 5) ∧ (P a1 0 = (a1 + 1) + 1) ∧ (gK W (a1 + 1) = 20) ∧ (Rg (gL W (a1 + 1) : Int)) ∧ ((((gL W (a1 + 1) : Int) ≤ x3) → (Rg ((A 8 4) - x2)) ∧ (¬ P 8 7 = 0) ∧ (gK W (P 8 7 - 1) = 6) ∧ (Rg (((UA A a1 6 ((A 8 4) - x2)) 8 4) * ((UA A a1 6 ((A 8 4) - x2)) (P 8 7 - 1) 1))) ∧ (Rg (((UA A a1 6 ((A 8 4) - x2)) 8 3) + (((UA A a1 6 ((A 8 4) - x2)) 8 4) * ((UA A a1 6 ((A 8 4) - x2)) (P 8 7 - 1) 1)))) ∧ (LyC W P (UA (UA A a1 6 ((A 8 4) - x2)) a1 3 (((UA A a1 6 ((A 8 4) - x2)) 8 3) + (((UA A a1 6 ((A 8 4) - x2)) 8 4) * ((UA A a1 6 ((A 8 4) - x2)) (P 8 7 - 1) 1))))) ∧ (0 ≤ (UA (UA A a1 6 ((A 8 4) - x2)) a1 3 (((UA A a1 6 ((A 8 4) - x2)) 8 3) + (((UA A a1 6 ((A 8 4) - x2)) 8 4) * ((UA A a1 6 ((A 8 4) - x2)) (P 8 7 - 1) 1)))) 8 3 ∧ (UA (UA A a1 6 ((A 8 4) - x2)) a1 3 (((UA A a1 6 ((A 8 4) - x2)) 8 3) + (((UA A a1 6 ((A 8 4) - x2)) 8 4) * ((UA A a1 6 ((A 8 4) - x2)) (P 8 7 - 1) 1)))) 8 3 ≤ 100000) ∧ (0 ≤ ((UA (UA A a1 6 ((A 8 4) - x2)) a1 3 (((UA A a1 6 ((A 8 4) - x2)) 8 3) + (((UA A a1 6 ((A 8 4) - x2)) 8 4) * ((UA A a1 6 ((A 8 4) - x2)) (P 8 7 - 1) 1)))) 8 4) ∧ ((UA (UA A a1 6 ((A 8 4) - x2)) a1 3 (((UA A a1 6 ((A 8 4) - x2)) 8 3) + (((UA A a1 6 ((A 8 4) - x2)) 8 4) * ((UA A a1 6 ((A 8 4) - x2)) (P 8 7 - 1) 1)))) 8 4) ≤ 1000) ∧ Q none (Wm W (UA (UA (UA A a1 6 ((A 8 4) - x2)) a1 3 (((UA A a1 6 ((A 8 4) - x2)) 8 3) + (((UA A a1 6 ((A 8 4) - x2)) 8 4) * ((UA A a1 6 ((A 8 4) - x2)) (P 8 7 - 1) 1)))) a1 4 ((UA (UA A a1 6 ((A 8 4) - x2)) a1 3 (((UA A a1 6 ((A 8 4) - x2)) 8 3) + (((UA A a1 6 ((A 8 4) - x2)) 8 4) * ((UA A a1 6 ((A 8 4) - x2)) (P 8 7 - 1) 1)))) 8 3 + ((UA (UA A a1 6 ((A 8 4) - x2)) a1 3 (((UA A a1 6 ((A 8 4) - x2)) 8 3) + (((UA A a1 6 ((A 8 4) - x2)) 8 4) * ((UA A a1 6 ((A 8 4) - x2)) (P 8 7 - 1) 1)))) 8 4) * (UA (UA A a1 6 ((A 8 4) - x2)) a1 3 (((UA A a1 6 ((A 8 4) - x2)) 8 3) + (((UA A a1 6 ((A 8 4) - x2)) 8 4) * ((UA A a1 6 ((A 8 4) - x2)) (P 8 7 - 1) 1)))) (P 8 7 - 1) 1 + (UA (UA A a1 6 ((A 8 4) - x2)) a1 3 (((UA A a1 6 ((A 8 4) - x2)) 8 3) + (((UA A a1 6 ((A 8 4) - x2)) 8 4) * ((UA A a1 6 ((A 8 4) - x2)) (P 8 7 - 1) 1)))) (P 8 5 - 1) 7)) P)) ∧ (¬ ((gL W (a1 + 1) : Int) ≤ x3) → (((24 ≤ x3) → (Rg ((A 8 4) - x2)) ∧ (¬ P 8 7 = 0) ∧ (gK W (P 8 7 - 1) = 6) ∧ (Rg (((UA A a1 6 ((A 8 4) - x2)) 8 4) * ((UA A a1 6 ((A 8 4) - x2)) (P 8 7 - 1) 1))) ∧ (Rg (((UA A a1 6 ((A 8 4) - x2)) 8 3) + (((UA A a1 6 ((A 8 4) - x2)) 8 4) * ((UA A a1 6 ((A 8 4) - x2)) (P 8 7 - 1) 1)))) ∧ (LyC W P (UA (UA A a1 6 ((A 8 4) - x2)) a1 3 (((UA A a1 6 ((A 8 4) - x2)) 8 3) + (((UA A a1 6 ((A 8 4) - x2)) 8 4) * ((UA A a1 6 ((A 8 4) - x2)) (P 8 7 - 1) 1))))) ∧ (0 ≤ (UA (UA A a1 6 ((A 8 4) - x2)) a1 3 (((UA A a1 6 ((A 8 4) - x2)) 8 3) + (((UA A a1 6 ((A 8 4) - x2)) 8 4) * ((UA A a1 6 ((A 8 4) - x2)) (P 8 7 - 1) 1)))) 8 3 ∧ (UA (UA A a1 6 ((A 8 4) - x2)) a1 3 (((UA A a1 6 ((A 8 4) - x2)) 8 3) + (((UA A a1 6 ((A 8 4) - x2)) 8 4) * ((UA A a1 6 ((A 8 4) - x2)) (P 8 7 - 1) 1)))) 8 3 ≤ 100000) ∧ (0 ≤ ((UA (UA A a1 6 ((A 8 4) - x2)) a1 3 (((UA A a1 6 ((A 8 4) - x2)) 8 3) + (((UA A a1 6 ((A 8 4) - x2)) 8 4) * ((UA A a1 6 ((A 8 4) - x2)) (P 8 7 - 1) 1)))) 8 4) ∧ ((UA (UA A a1 6 ((A 8 4) - x2)) a1 3 (((UA A a1 6 ((A 8 4) - x2)) 8 3) + (((UA A a1 6 ((A 8 4) - x2)) 8 4) * ((UA A a1 6 ((A 8 4) - x2)) (P 8 7 - 1) 1)))) 8 4) ≤ 1000) ∧ Q none (Wm W (UA (UA (UA A a1 6 ((A 8 4) - x2)) a1 3 (((UA A a1 6 ((A 8 4) - x2)) 8 3) + (((UA A a1 6 ((A 8 4) - x2)) 8 4) * ((UA A a1 6 ((A 8 4) - x2)) (P 8 7 - 1) 1)))) a1 4 ((UA (UA A a1 6 ((A 8 4) - x2)) a1 3 (((UA A a1 6 ((A 8 4) - x2)) 8 3) + (((UA A a1 6 ((A 8 4) - x2)) 8 4) * ((UA A a1 6 ((A 8 4) - x2)) (P 8 7 - 1) 1)))) 8 3 + ((UA (UA A a1 6 ((A 8 4) - x2)) a1 3 (((UA A a1 6 ((A 8 4) - x2)) 8 3) + (((UA A a1 6 ((A 8 4) - x2)) 8 4) * ((UA A a1 6 ((A 8 4) - x2)) (P 8 7 - 1) 1)))) 8 4) * (UA (UA A a1 6 ((A 8 4) - x2)) a1 3 (((UA A a1 6 ((A 8 4) - x2)) 8 3) + (((UA A a1 6 ((A 8 4) - x2)) 8 4) * ((UA A a1 6 ((A 8 4) - x2)) (P 8 7 - 1) 1)))) (P 8 7 - 1) 1 + (UA (UA A a1 6 ((A 8 4) - x2)) a1 3 (((UA A a1 6 ((A 8 4) - x2)) 8 3) + (((UA A a1 6 ((A 8 4) - x2)) 8 4) * ((UA A a1 6 ((A 8 4) - x2)) (P 8 7 - 1) 1)))) (P 8 5 - 1) 7)) P)) ∧ (¬ (24 ≤ x3) → (0 ≤ x3 ∧ x3 < 24) ∧ (¬ P 8 7 = 0) ∧ (gK W (P 8 7 - 1) = 6) ∧ (Rg (x2 * (A (P 8 7 - 1) 1))) ∧ (Rg ((A 10 x3) + (x2 * (A (P 8 7 - 1) 1)))) ∧ (0 ≤ x3 ∧ x3 < gL W (a1 + 1) ∧ x3 ≤ 2147483647) ∧ (¬ P 8 5 = 0) ∧ (gK W (P 8 5 - 1) = 3) ∧ (Rg (((UA A (a1 + 1) x3 ((A 10 x3) + (x2 * (A (P 8 7 - 1) 1)))) (P 8 5 - 1) 4) - 1)) ∧ ((((((UA A (a1 + 1) x3 ((A 10 x3) + (x2 * (A (P 8 7 - 1) 1)))) (P 8 5 - 1) 4) - 1) ≤ x3) → (Rg (x3 + 1)) ∧ wpE (xT 83) (xev xT d) Q (59, [(0, .ref (lo W 8)), (1, .ref (lo W a1)), (2, .int (iz x2)), (3, .int (iz (x3 + 1)))], [], Wm W (UA A (a1 + 1) x3 ((A 10 x3) + (x2 * (A (P 8 7 - 1) 1)))) P)) ∧ (¬ ((((UA A (a1 + 1) x3 ((A 10 x3) + (x2 * (A (P 8 7 - 1) 1)))) (P 8 5 - 1) 4) - 1) ≤ x3) → (P a1 1 = (a1 + 2) + 1) ∧ (LyC W P (UA A (a1 + 1) x3 ((A 10 x3) + (x2 * (A (P 8 7 - 1) 1))))) ∧ (0 ≤ x2 ∧ x2 ≤ 210) ∧ (gK W (a1 + 2) = 20) ∧ (0 ≤ x3 ∧ x3 < gL W (a1 + 2) ∧ x3 ≤ 2147483647) ∧ (LyC W P (UA (UA A (a1 + 1) x3 ((A 10 x3) + (x2 * (A (P 8 7 - 1) 1)))) (a1 + 2) x3 (k_dep (UA A (a1 + 1) x3 ((A 10 x3) + (x2 * (A (P 8 7 - 1) 1)))) (P 8 5 - 1) (P 8 7 - 1) x3 x2 3 1))) ∧ (1 ≤ (k_dep (UA A (a1 + 1) x3 ((A 10 x3) + (x2 * (A (P 8 7 - 1) 1)))) (P 8 5 - 1) (P 8 7 - 1) x3 x2 3 1) ∧ (k_dep (UA A (a1 + 1) x3 ((A 10 x3) + (x2 * (A (P 8 7 - 1) 1)))) (P 8 5 - 1) (P 8 7 - 1) x3 x2 3 1) ≤ 4) ∧ (Rg (x2 + (ykl (UA (UA A (a1 + 1) x3 ((A 10 x3) + (x2 * (A (P 8 7 - 1) 1)))) (a1 + 2) x3 (k_dep (UA A (a1 + 1) x3 ((A 10 x3) + (x2 * (A (P 8 7 - 1) 1)))) (P 8 5 - 1) (P 8 7 - 1) x3 x2 3 1)) (P 8 5 - 1) x3 (k_dep (UA A (a1 + 1) x3 ((A 10 x3) + (x2 * (A (P 8 7 - 1) 1)))) (P 8 5 - 1) (P 8 7 - 1) x3 x2 3 1)))) ∧ (Rg (x3 + 1)) ∧ wpE (xT 83) (xev xT d) Q (59, [(0, .ref (lo W 8)), (1, .ref (lo W a1)), (2, .int (iz (x2 + (ykl (UA (UA A (a1 + 1) x3 ((A 10 x3) + (x2 * (A (P 8 7 - 1) 1)))) (a1 + 2) x3 (k_dep (UA A (a1 + 1) x3 ((A 10 x3) + (x2 * (A (P 8 7 - 1) 1)))) (P 8 5 - 1) (P 8 7 - 1) x3 x2 3 1)) (P 8 5 - 1) x3 (k_dep (UA A (a1 + 1) x3 ((A 10 x3) + (x2 * (A (P 8 7 - 1) 1)))) (P 8 5 - 1) (P 8 7 - 1) x3 x2 3 1))))), (3, .int (iz (x3 + 1)))], [], Wm W (UA (UA A (a1 + 1) x3 ((A 10 x3) + (x2 * (A (P 8 7 - 1) 1)))) (a1 + 2) x3 (k_dep (UA A (a1 + 1) x3 ((A 10 x3) + (x2 * (A (P 8 7 - 1) 1)))) (P 8 5 - 1) (P 8 7 - 1) x3 x2 3 1)) P)))))))) : wpE (xT 83) (xev xT d) Q (59, [(0, .ref (lo W 8)), (1, .ref (lo W a1)), (2, .int (iz x2)), (3, .int (iz x3))], [], Wm W A P) := by
  refine p_ild (cct c83_59 rfl) rfl ?_
  refine p_ald (cc3 c83_60) rfl ?_
  obtain ⟨g1, h⟩ := h
  obtain ⟨g2, h⟩ := h
  refine w_getp hW hT.1 (b := a1 + 1) (cc3 c83_61) g1 (ji := 0) rfl g2 ?_
  obtain ⟨g3, h⟩ := h
  refine w_len hW (cc3 c83_64) g3 ?_
  obtain ⟨g4, h⟩ := h
  refine i_icmp (c' := (gL W (a1 + 1) : Int) ≤ x3) (cc3 c83_65) (iz_le g4 rr.2) (fun c => ?_) (fun c => ?_)
  · have h := h.1 c
    refine p_lc (ls' := [(0, .ref (lo W 8)), (1, .ref (lo W a1)), (2, .int (iz x2))]) c83_141 rfl rfl ?_
    refine p_ald (cct c83_141 rfl) rfl ?_
    refine p_ald (cc3 c83_142) rfl ?_
    refine w_geti hW (v := A 8 4) (cc3 c83_143) (st_k hT 8 4 (by decide)) (ji := 4) rfl rfl ?_
    refine p_ild (cc3 c83_146) rfl ?_
    obtain ⟨g5, h⟩ := h
    refine (fun _ : Rg ((A 8 4) - x2) => i_sub (cc3 c83_147) ?_) g5
    refine id (α := Rg ((A 8 4) - x2) → _) (fun _ => ?_) g5; refine w_puti hW (cc3 c83_148) g1 (ji := 6) rfl ?_
    refine p_ald (cc3 c83_151) rfl ?_
    refine p_ald (cc3 c83_152) rfl ?_
    refine w_geti hW (v := (UA A a1 6 ((A 8 4) - x2)) 8 3) (cc3 c83_153) (st_k hT 8 4 (by decide)) (ji := 3) rfl (by first | rfl | exact UA_eq | exact UA_j (by decide) | exact UA_c (by decide)) ?_
    refine p_ald (cc3 c83_156) rfl ?_
    refine w_geti hW (v := (UA A a1 6 ((A 8 4) - x2)) 8 4) (cc3 c83_157) (st_k hT 8 4 (by decide)) (ji := 4) rfl (by first | rfl | exact UA_eq | exact UA_j (by decide) | exact UA_c (by decide)) ?_
    refine p_ald (cc3 c83_160) rfl ?_
    obtain ⟨g6, h⟩ := h
    refine w_getp0 hW hT.1 (cc3 c83_161) (st_k hT 8 4 (by decide)) (ji := 7) rfl g6 ?_
    obtain ⟨g7, h⟩ := h
    refine w_geti hW (v := (UA A a1 6 ((A 8 4) - x2)) (P 8 7 - 1) 1) (cc3 c83_164) g7 (ji := 1) rfl (by first | rfl | exact UA_eq | exact UA_j (by decide) | exact UA_c (by decide)) ?_
    obtain ⟨g8, h⟩ := h
    refine (fun _ : Rg (((UA A a1 6 ((A 8 4) - x2)) 8 4) * ((UA A a1 6 ((A 8 4) - x2)) (P 8 7 - 1) 1)) => i_mul (cc3 c83_167) ?_) g8
    obtain ⟨g9, h⟩ := h
    refine (fun _ : Rg (((UA A a1 6 ((A 8 4) - x2)) 8 3) + (((UA A a1 6 ((A 8 4) - x2)) 8 4) * ((UA A a1 6 ((A 8 4) - x2)) (P 8 7 - 1) 1))) => i_add (cc3 c83_168) ?_) g9
    refine id (α := Rg (((UA A a1 6 ((A 8 4) - x2)) 8 3) + (((UA A a1 6 ((A 8 4) - x2)) 8 4) * ((UA A a1 6 ((A 8 4) - x2)) (P 8 7 - 1) 1))) → _) (fun _ => ?_) g9; refine w_puti hW (cc3 c83_169) g1 (ji := 3) rfl ?_
    refine p_ald (cc3 c83_172) rfl ?_
    refine p_ald (cc3 c83_173) rfl ?_
    refine p_ald (cc3 c83_174) rfl ?_
    refine w_geti hW (v := (UA (UA A a1 6 ((A 8 4) - x2)) a1 3 (((UA A a1 6 ((A 8 4) - x2)) 8 3) + (((UA A a1 6 ((A 8 4) - x2)) 8 4) * ((UA A a1 6 ((A 8 4) - x2)) (P 8 7 - 1) 1)))) 8 4) (cc3 c83_175) (st_k hT 8 4 (by decide)) (ji := 4) rfl (by first | rfl | exact UA_eq | exact UA_j (by decide) | exact UA_c (by decide)) ?_
    obtain ⟨g10, h⟩ := h
    obtain ⟨g11, h⟩ := h
    obtain ⟨g12, h⟩ := h
    refine p_callV (cc3 c83_178) (Nat.le_of_ble_eq_true rfl) rfl rfl (Nat.le_of_ble_eq_true rfl) (wk_kd hW (by decide) (st_k hT 8 4 (by decide))) (S77 (Nat.le_trans (by decide) hd) hW (rg_UA (rg_UA hR g5) g9) hT hG ((rg_UA (rg_UA hR g5) g9) 8 4) ⟨g10, g11, g12⟩) ?_
    refine id (α := Rg ((UA (UA A a1 6 ((A 8 4) - x2)) a1 3 (((UA A a1 6 ((A 8 4) - x2)) 8 3) + (((UA A a1 6 ((A 8 4) - x2)) 8 4) * ((UA A a1 6 ((A 8 4) - x2)) (P 8 7 - 1) 1)))) 8 3 + ((UA (UA A a1 6 ((A 8 4) - x2)) a1 3 (((UA A a1 6 ((A 8 4) - x2)) 8 3) + (((UA A a1 6 ((A 8 4) - x2)) 8 4) * ((UA A a1 6 ((A 8 4) - x2)) (P 8 7 - 1) 1)))) 8 4) * (UA (UA A a1 6 ((A 8 4) - x2)) a1 3 (((UA A a1 6 ((A 8 4) - x2)) 8 3) + (((UA A a1 6 ((A 8 4) - x2)) 8 4) * ((UA A a1 6 ((A 8 4) - x2)) (P 8 7 - 1) 1)))) (P 8 7 - 1) 1 + (UA (UA A a1 6 ((A 8 4) - x2)) a1 3 (((UA A a1 6 ((A 8 4) - x2)) 8 3) + (((UA A a1 6 ((A 8 4) - x2)) 8 4) * ((UA A a1 6 ((A 8 4) - x2)) (P 8 7 - 1) 1)))) (P 8 5 - 1) 7) → _) (fun _ => ?_) (rg_usd ⟨g10, g11, g12⟩); refine w_puti hW (cc3 c83_181) g1 (ji := 4) rfl ?_
    exact p_rv (cc3 c83_184) h
  · have h := h.2 c
    refine p_ild (cc3 c83_68) rfl ?_
    refine i_push (n := 24) (cc3 c83_69) zl_24 ?_
    refine i_icmp (c' := 24 ≤ x3) (cc3 c83_71) (iz_le (by decide : Rg (24 : Int)) rr.2) (fun c => ?_) (fun c => ?_)
    · have h := h.1 c
      refine p_lc (ls' := [(0, .ref (lo W 8)), (1, .ref (lo W a1)), (2, .int (iz x2))]) c83_141 rfl rfl ?_
      refine p_ald (cct c83_141 rfl) rfl ?_
      refine p_ald (cc3 c83_142) rfl ?_
      refine w_geti hW (v := A 8 4) (cc3 c83_143) (st_k hT 8 4 (by decide)) (ji := 4) rfl rfl ?_
      refine p_ild (cc3 c83_146) rfl ?_
      obtain ⟨g5, h⟩ := h
      refine (fun _ : Rg ((A 8 4) - x2) => i_sub (cc3 c83_147) ?_) g5
      refine id (α := Rg ((A 8 4) - x2) → _) (fun _ => ?_) g5; refine w_puti hW (cc3 c83_148) g1 (ji := 6) rfl ?_
      refine p_ald (cc3 c83_151) rfl ?_
      refine p_ald (cc3 c83_152) rfl ?_
      refine w_geti hW (v := (UA A a1 6 ((A 8 4) - x2)) 8 3) (cc3 c83_153) (st_k hT 8 4 (by decide)) (ji := 3) rfl (by first | rfl | exact UA_eq | exact UA_j (by decide) | exact UA_c (by decide)) ?_
      refine p_ald (cc3 c83_156) rfl ?_
      refine w_geti hW (v := (UA A a1 6 ((A 8 4) - x2)) 8 4) (cc3 c83_157) (st_k hT 8 4 (by decide)) (ji := 4) rfl (by first | rfl | exact UA_eq | exact UA_j (by decide) | exact UA_c (by decide)) ?_
      refine p_ald (cc3 c83_160) rfl ?_
      obtain ⟨g6, h⟩ := h
      refine w_getp0 hW hT.1 (cc3 c83_161) (st_k hT 8 4 (by decide)) (ji := 7) rfl g6 ?_
      obtain ⟨g7, h⟩ := h
      refine w_geti hW (v := (UA A a1 6 ((A 8 4) - x2)) (P 8 7 - 1) 1) (cc3 c83_164) g7 (ji := 1) rfl (by first | rfl | exact UA_eq | exact UA_j (by decide) | exact UA_c (by decide)) ?_
      obtain ⟨g8, h⟩ := h
      refine (fun _ : Rg (((UA A a1 6 ((A 8 4) - x2)) 8 4) * ((UA A a1 6 ((A 8 4) - x2)) (P 8 7 - 1) 1)) => i_mul (cc3 c83_167) ?_) g8
      obtain ⟨g9, h⟩ := h
      refine (fun _ : Rg (((UA A a1 6 ((A 8 4) - x2)) 8 3) + (((UA A a1 6 ((A 8 4) - x2)) 8 4) * ((UA A a1 6 ((A 8 4) - x2)) (P 8 7 - 1) 1))) => i_add (cc3 c83_168) ?_) g9
      refine id (α := Rg (((UA A a1 6 ((A 8 4) - x2)) 8 3) + (((UA A a1 6 ((A 8 4) - x2)) 8 4) * ((UA A a1 6 ((A 8 4) - x2)) (P 8 7 - 1) 1))) → _) (fun _ => ?_) g9; refine w_puti hW (cc3 c83_169) g1 (ji := 3) rfl ?_
      refine p_ald (cc3 c83_172) rfl ?_
      refine p_ald (cc3 c83_173) rfl ?_
      refine p_ald (cc3 c83_174) rfl ?_
      refine w_geti hW (v := (UA (UA A a1 6 ((A 8 4) - x2)) a1 3 (((UA A a1 6 ((A 8 4) - x2)) 8 3) + (((UA A a1 6 ((A 8 4) - x2)) 8 4) * ((UA A a1 6 ((A 8 4) - x2)) (P 8 7 - 1) 1)))) 8 4) (cc3 c83_175) (st_k hT 8 4 (by decide)) (ji := 4) rfl (by first | rfl | exact UA_eq | exact UA_j (by decide) | exact UA_c (by decide)) ?_
      obtain ⟨g10, h⟩ := h
      obtain ⟨g11, h⟩ := h
      obtain ⟨g12, h⟩ := h
      refine p_callV (cc3 c83_178) (Nat.le_of_ble_eq_true rfl) rfl rfl (Nat.le_of_ble_eq_true rfl) (wk_kd hW (by decide) (st_k hT 8 4 (by decide))) (S77 (Nat.le_trans (by decide) hd) hW (rg_UA (rg_UA hR g5) g9) hT hG ((rg_UA (rg_UA hR g5) g9) 8 4) ⟨g10, g11, g12⟩) ?_
      refine id (α := Rg ((UA (UA A a1 6 ((A 8 4) - x2)) a1 3 (((UA A a1 6 ((A 8 4) - x2)) 8 3) + (((UA A a1 6 ((A 8 4) - x2)) 8 4) * ((UA A a1 6 ((A 8 4) - x2)) (P 8 7 - 1) 1)))) 8 3 + ((UA (UA A a1 6 ((A 8 4) - x2)) a1 3 (((UA A a1 6 ((A 8 4) - x2)) 8 3) + (((UA A a1 6 ((A 8 4) - x2)) 8 4) * ((UA A a1 6 ((A 8 4) - x2)) (P 8 7 - 1) 1)))) 8 4) * (UA (UA A a1 6 ((A 8 4) - x2)) a1 3 (((UA A a1 6 ((A 8 4) - x2)) 8 3) + (((UA A a1 6 ((A 8 4) - x2)) 8 4) * ((UA A a1 6 ((A 8 4) - x2)) (P 8 7 - 1) 1)))) (P 8 7 - 1) 1 + (UA (UA A a1 6 ((A 8 4) - x2)) a1 3 (((UA A a1 6 ((A 8 4) - x2)) 8 3) + (((UA A a1 6 ((A 8 4) - x2)) 8 4) * ((UA A a1 6 ((A 8 4) - x2)) (P 8 7 - 1) 1)))) (P 8 5 - 1) 7) → _) (fun _ => ?_) (rg_usd ⟨g10, g11, g12⟩); refine w_puti hW (cc3 c83_181) g1 (ji := 4) rfl ?_
      exact p_rv (cc3 c83_184) h
    · have h := h.2 c
      refine p_ald (cc3 c83_74) rfl ?_
      refine w_getp hW hT.1 (b := a1 + 1) (cc3 c83_75) g1 (ji := 0) rfl g2 ?_
      refine p_ild (cc3 c83_78) rfl ?_
      refine p_ald (cc3 c83_79) rfl ?_
      refine w_getp hW hT.1 (b := 10) (cc3 c83_80) (st_k hT 8 4 (by decide)) (ji := 1) rfl (st_p hT 8 1 10 (by decide)) ?_
      refine p_ild (cc3 c83_83) rfl ?_
      obtain ⟨g5, h⟩ := h
      refine w_aldi hW (v := A 10 x3) (cc3 c83_84) (st_k hT 10 20 (by decide)) (st_i hT 10 24 (by decide) g5) rfl ?_
      refine p_ild (cc3 c83_85) rfl ?_
      refine p_ald (cc3 c83_86) rfl ?_
      obtain ⟨g6, h⟩ := h
      refine w_getp0 hW hT.1 (cc3 c83_87) (st_k hT 8 4 (by decide)) (ji := 7) rfl g6 ?_
      obtain ⟨g7, h⟩ := h
      refine w_geti hW (v := A (P 8 7 - 1) 1) (cc3 c83_90) g7 (ji := 1) rfl rfl ?_
      obtain ⟨g8, h⟩ := h
      refine (fun _ : Rg (x2 * (A (P 8 7 - 1) 1)) => i_mul (cc3 c83_93) ?_) g8
      obtain ⟨g9, h⟩ := h
      refine (fun _ : Rg ((A 10 x3) + (x2 * (A (P 8 7 - 1) 1))) => i_add (cc3 c83_94) ?_) g9
      obtain ⟨g10, h⟩ := h
      refine id (α := Rg ((A 10 x3) + (x2 * (A (P 8 7 - 1) 1))) → _) (fun _ => ?_) g9; refine w_asti hW (cc3 c83_95) g3 g10 rfl ?_
      refine p_ild (cc3 c83_96) rfl ?_
      refine p_ald (cc3 c83_97) rfl ?_
      obtain ⟨g11, h⟩ := h
      refine w_getp0 hW hT.1 (cc3 c83_98) (st_k hT 8 4 (by decide)) (ji := 5) rfl g11 ?_
      obtain ⟨g12, h⟩ := h
      refine w_geti hW (v := (UA A (a1 + 1) x3 ((A 10 x3) + (x2 * (A (P 8 7 - 1) 1)))) (P 8 5 - 1) 4) (cc3 c83_101) g12 (ji := 4) rfl (by first | rfl | exact UA_eq | exact UA_j (by decide) | exact UA_c (by decide)) ?_
      refine i_push (n := 1) (cc3 c83_104) zl_1 ?_
      obtain ⟨g13, h⟩ := h
      refine (fun _ : Rg (((UA A (a1 + 1) x3 ((A 10 x3) + (x2 * (A (P 8 7 - 1) 1)))) (P 8 5 - 1) 4) - 1) => i_sub (cc3 c83_105) ?_) g13
      refine i_icmp (c' := (((UA A (a1 + 1) x3 ((A 10 x3) + (x2 * (A (P 8 7 - 1) 1)))) (P 8 5 - 1) 4) - 1) ≤ x3) (cc3 c83_106) (iz_le g13 rr.2) (fun c => ?_) (fun c => ?_)
      · have h := h.1 c
        obtain ⟨g14, h⟩ := h
        refine (fun _ : Rg (x3 + 1) => i_iinc (n := 1) (y := x3 + 1) (ls' := [(3, .int (iz (x3 + 1))), (0, .ref (lo W 8)), (1, .ref (lo W a1)), (2, .int (iz x2))]) (cct c83_135 rfl) (by decide) rfl zl_1 (by first | rfl | omega) rfl ?_) g14
        refine p_goto (cc3 c83_138) ?_
        exact p_lc (ls' := [(0, .ref (lo W 8)), (1, .ref (lo W a1)), (2, .int (iz x2)), (3, .int (iz (x3 + 1)))]) c83_59 rfl rfl h
      · have h := h.2 c
        refine p_ald (cc3 c83_109) rfl ?_
        obtain ⟨g14, h⟩ := h
        refine w_getp hW hT.1 (b := a1 + 2) (cc3 c83_110) g1 (ji := 1) rfl g14 ?_
        refine p_ild (cc3 c83_113) rfl ?_
        refine p_ald (cc3 c83_114) rfl ?_
        refine p_ild (cc3 c83_115) rfl ?_
        refine p_ild (cc3 c83_116) rfl ?_
        obtain ⟨g15, h⟩ := h
        obtain ⟨g16, h⟩ := h
        refine p_callV (cc3 c83_117) (Nat.le_of_ble_eq_true rfl) rfl rfl (Nat.le_of_ble_eq_true rfl) (wk_kd hW (by decide) (st_k hT 8 4 (by decide))) (S84 (Nat.le_trans (by decide) hd) hW (rg_UA hR g9) hT hG ⟨rr.2, rr.1⟩ ⟨g15, g5, g16⟩) ?_
        obtain ⟨g17, h⟩ := h
        obtain ⟨g18, h⟩ := h
        refine id (α := Rg (k_dep (UA A (a1 + 1) x3 ((A 10 x3) + (x2 * (A (P 8 7 - 1) 1)))) (P 8 5 - 1) (P 8 7 - 1) x3 x2 3 1) → _) (fun _ => ?_) rg_dep; refine w_asti hW (cc3 c83_120) g17 g18 rfl ?_
        refine p_ild (cc3 c83_121) rfl ?_
        refine p_ald (cc3 c83_122) rfl ?_
        refine p_ild (cc3 c83_123) rfl ?_
        refine p_ald (cc3 c83_124) rfl ?_
        refine w_getp hW hT.1 (b := a1 + 2) (cc3 c83_125) g1 (ji := 1) rfl g14 ?_
        refine p_ild (cc3 c83_128) rfl ?_
        refine w_aldi hW (v := k_dep (UA A (a1 + 1) x3 ((A 10 x3) + (x2 * (A (P 8 7 - 1) 1)))) (P 8 5 - 1) (P 8 7 - 1) x3 x2 3 1) (cc3 c83_129) g17 g18 (by first | rfl | exact UA_eq | exact UA_c (by decide)) ?_
        obtain ⟨g19, h⟩ := h
        obtain ⟨g20, h⟩ := h
        refine p_callV (cc3 c83_130) (Nat.le_of_ble_eq_true rfl) rfl rfl (Nat.le_of_ble_eq_true rfl) (wk_kd hW (by decide) (st_k hT 8 4 (by decide))) (S75 (Nat.le_trans (by decide) hd) hW (rg_UA (rg_UA hR g9) rg_dep) hT hG ⟨rr.2, rg_dep⟩ ⟨g19, g20⟩) ?_
        obtain ⟨g21, h⟩ := h
        refine (fun _ : Rg (x2 + (ykl (UA (UA A (a1 + 1) x3 ((A 10 x3) + (x2 * (A (P 8 7 - 1) 1)))) (a1 + 2) x3 (k_dep (UA A (a1 + 1) x3 ((A 10 x3) + (x2 * (A (P 8 7 - 1) 1)))) (P 8 5 - 1) (P 8 7 - 1) x3 x2 3 1)) (P 8 5 - 1) x3 (k_dep (UA A (a1 + 1) x3 ((A 10 x3) + (x2 * (A (P 8 7 - 1) 1)))) (P 8 5 - 1) (P 8 7 - 1) x3 x2 3 1))) => i_add (cc3 c83_133) ?_) g21
        refine p_ist (ls' := [(2, .int (iz (x2 + (ykl (UA (UA A (a1 + 1) x3 ((A 10 x3) + (x2 * (A (P 8 7 - 1) 1)))) (a1 + 2) x3 (k_dep (UA A (a1 + 1) x3 ((A 10 x3) + (x2 * (A (P 8 7 - 1) 1)))) (P 8 5 - 1) (P 8 7 - 1) x3 x2 3 1)) (P 8 5 - 1) x3 (k_dep (UA A (a1 + 1) x3 ((A 10 x3) + (x2 * (A (P 8 7 - 1) 1)))) (P 8 5 - 1) (P 8 7 - 1) x3 x2 3 1))))), (0, .ref (lo W 8)), (1, .ref (lo W a1)), (3, .int (iz x3))]) (cc3 c83_134) (by decide) rfl ?_
        refine p_lc (ls' := [(0, .ref (lo W 8)), (1, .ref (lo W a1)), (2, .int (iz (x2 + (ykl (UA (UA A (a1 + 1) x3 ((A 10 x3) + (x2 * (A (P 8 7 - 1) 1)))) (a1 + 2) x3 (k_dep (UA A (a1 + 1) x3 ((A 10 x3) + (x2 * (A (P 8 7 - 1) 1)))) (P 8 5 - 1) (P 8 7 - 1) x3 x2 3 1)) (P 8 5 - 1) x3 (k_dep (UA A (a1 + 1) x3 ((A 10 x3) + (x2 * (A (P 8 7 - 1) 1)))) (P 8 5 - 1) (P 8 7 - 1) x3 x2 3 1))))), (3, .int (iz x3))]) c83_135 rfl rfl ?_
        obtain ⟨g22, h⟩ := h
        refine (fun _ : Rg (x3 + 1) => i_iinc (n := 1) (y := x3 + 1) (ls' := [(3, .int (iz (x3 + 1))), (0, .ref (lo W 8)), (1, .ref (lo W a1)), (2, .int (iz (x2 + (ykl (UA (UA A (a1 + 1) x3 ((A 10 x3) + (x2 * (A (P 8 7 - 1) 1)))) (a1 + 2) x3 (k_dep (UA A (a1 + 1) x3 ((A 10 x3) + (x2 * (A (P 8 7 - 1) 1)))) (P 8 5 - 1) (P 8 7 - 1) x3 x2 3 1)) (P 8 5 - 1) x3 (k_dep (UA A (a1 + 1) x3 ((A 10 x3) + (x2 * (A (P 8 7 - 1) 1)))) (P 8 5 - 1) (P 8 7 - 1) x3 x2 3 1)))))]) (cct c83_135 rfl) (by decide) rfl zl_1 (by first | rfl | omega) rfl ?_) g22
        refine p_goto (cc3 c83_138) ?_
        exact p_lc (ls' := [(0, .ref (lo W 8)), (1, .ref (lo W a1)), (2, .int (iz (x2 + (ykl (UA (UA A (a1 + 1) x3 ((A 10 x3) + (x2 * (A (P 8 7 - 1) 1)))) (a1 + 2) x3 (k_dep (UA A (a1 + 1) x3 ((A 10 x3) + (x2 * (A (P 8 7 - 1) 1)))) (P 8 5 - 1) (P 8 7 - 1) x3 x2 3 1)) (P 8 5 - 1) x3 (k_dep (UA A (a1 + 1) x3 ((A 10 x3) + (x2 * (A (P 8 7 - 1) 1)))) (P 8 5 - 1) (P 8 7 - 1) x3 x2 3 1))))), (3, .int (iz (x3 + 1)))]) c83_59 rfl rfl h

theorem L83p {d : Nat} (hd : 4 ≤ d) {Q : Option Value → xM → Prop} {W : gW} (hW : HW W) {A0 : Nat → Int → Int} {P : Nat → Int → Nat} (hT : Stat W P) (hG : GL W) (hp : LyC W P A0) (hB : TrB A0 (P 8 5 - 1)) {t0 : Int} (ht : 0 ≤ t0 ∧ t0 ≤ 3)
    (hQ : ∀ A, RG A → TrF A0 A (P 8 5 - 1) → TrE A0 A (P 8 5 - 1) (P 8 7 - 1) t0 (A0 (P 8 5 - 1) 4).toNat → A (P 8 5 - 1 + 1) 5 = t0 → A (P 8 5 - 1 + 1) 2 = A0 8 2 + t0 * A0 (P 8 7 - 1) 1 → A (P 8 5 - 1 + 1) 6 = A0 8 4 - kxt A0 (P 8 5 - 1) (P 8 7 - 1) t0 ((A0 (P 8 5 - 1) 4).toNat - 1) → A (P 8 5 - 1 + 1) 3 = A0 8 3 + A0 8 4 * A0 (P 8 7 - 1) 1 → A (P 8 5 - 1 + 1) 4 = k_usd A0 (P 8 5 - 1) (P 8 7 - 1) (A0 8 4) → Q none (Wm W A P)) :
    ∀ (r p : Nat) (A : Nat → Int → Int), p + r = (A0 (P 8 5 - 1) 4).toNat → RG A → TrF A0 A (P 8 5 - 1) → TrE A0 A (P 8 5 - 1) (P 8 7 - 1) t0 p → A (P 8 5 - 1 + 1) 5 = t0 → A (P 8 5 - 1 + 1) 2 = A0 8 2 + t0 * A0 (P 8 7 - 1) 1 → wpE (xT 83) (xev xT d) Q (59, [(0, .ref (lo W 8)), (1, .ref (lo W (P 8 5 - 1 + 1))), (2, .int (iz (kxt A0 (P 8 5 - 1) (P 8 7 - 1) t0 (min p ((A0 (P 8 5 - 1) 4).toNat - 1))))), (3, .int (iz p))], [], Wm W A P) := by
  have hp' := hp
  obtain ⟨⟨m5, m6, m7⟩, hk, hb, hs, hd9⟩ := hp'
  obtain ⟨k3, k10, ⟨⟨g5, ga, gb⟩, ⟨ga1, gb1⟩, gla, glb, gn⟩, h4, -⟩ := hk
  obtain ⟨b82, b83, b84, b10⟩ := hB
  have e8 : ∀ (B : Nat → Int → Int) (j v i : Int), UA B (P 8 5 - 1 + 1) j v 8 i = B 8 i := fun B j v i => UA_c (by omega)
  have ns : ¬ P 8 7 - 1 = P 8 5 - 1 + 1 := fun e => by have := hs.1.1; rw [e] at this; omega
  have es : ∀ (B : Nat → Int → Int) (j v i : Int), UA B (P 8 5 - 1 + 1) j v (P 8 7 - 1) i = B (P 8 7 - 1) i := fun B j v i => UA_c ns
  have ek : ∀ (B : Nat → Int → Int) (j v i : Int), UA B (P 8 5 - 1 + 1) j v (P 8 5 - 1) i = B (P 8 5 - 1) i := fun B j v i => UA_c (by omega)
  intro r
  induction r with
  | zero =>
    intro p A hpr hR hF hE h5 h2
    have hpr' : p = (A0 (P 8 5 - 1) 4).toNat := hpr
    obtain ⟨c29, ck, cb, cb1, cs, hL⟩ := TrF.e hp hF
    have q8 := c29 8 (by decide)
    have q10 := c29 10 (by decide)
    have hxb := kxt_b (A := A0) (k := P 8 5 - 1) (s := P 8 7 - 1) ht ((A0 (P 8 5 - 1) 4).toNat - 1)
    have hpd := pd_b hL (x := A 8 4) (by rw [q8]; omega)
    have hu := rg_usd (x := A 8 4) ⟨hL, by rw [q8]; exact b83, by rw [q8]; omega⟩
    have em : min p ((A0 (P 8 5 - 1) 4).toNat - 1) = (A0 (P 8 5 - 1) 4).toNat - 1 := by omega
    rw [em]
    refine V83_59 hd hW hR hT hG ⟨⟨by omega, by omega⟩, ⟨by omega, by omega⟩⟩ ⟨g5, ga1, ga, ⟨by omega, by omega⟩, fun _ => ?_, fun c => absurd (by omega) c⟩
    simp only [e8, es, ek]
    have r1 : Rg (A 8 4 - kxt A0 (P 8 5 - 1) (P 8 7 - 1) t0 ((A0 (P 8 5 - 1) 4).toNat - 1)) := by rw [q8]; constructor <;> omega
    have r2 : Rg (A 8 3 + A 8 4 * A (P 8 7 - 1) 1) := by rw [q8] at hpd ⊢; constructor <;> omega
    have F1 : TrF A0 (UA A (P 8 5 - 1 + 1) 6 (A 8 4 - kxt A0 (P 8 5 - 1) (P 8 7 - 1) t0 ((A0 (P 8 5 - 1) 4).toNat - 1))) (P 8 5 - 1) := hF.fld (by decide)
    have F2 : TrF A0 (UA (UA A (P 8 5 - 1 + 1) 6 (A 8 4 - kxt A0 (P 8 5 - 1) (P 8 7 - 1) t0 ((A0 (P 8 5 - 1) 4).toNat - 1))) (P 8 5 - 1 + 1) 3 (A 8 3 + A 8 4 * A (P 8 7 - 1) 1)) (P 8 5 - 1) := F1.fld (by decide)
    refine ⟨r1, m7, hs.1.1, ⟨by omega, by omega⟩, r2, (TrF.e hp F2).2.2.2.2.2, by rw [q8]; exact b83, by rw [q8]; omega, ?_⟩
    refine hQ _ (rg_UA (rg_UA (rg_UA hR r1) r2) hu) (F2.fld (by decide)) (fun q hq => ?_) ?_ ?_ ?_ ?_ ?_
    · rw [UA_c (by omega), UA_c (by omega), UA_c (by omega), UA_c (by omega), UA_c (by omega), UA_c (by omega)]
      exact hE q (by omega)
    · rw [UA_j (by decide), UA_j (by decide), UA_j (by decide)]; exact h5
    · rw [UA_j (by decide), UA_j (by decide), UA_j (by decide)]; exact h2
    · rw [UA_j (by decide), UA_j (by decide), UA_eq, q8]
    · rw [UA_j (by decide), UA_eq, q8, cs]
    · rw [UA_eq, q8, cs, ck]; rfl
  | succ r ih =>
    intro p A hpr hR hF hE h5 h2
    obtain ⟨c29, ck, cb, cb1, cs, hL⟩ := TrF.e hp hF
    have q8 := c29 8 (by decide)
    have q9 := c29 9 (by decide)
    have q10 := c29 10 (by decide)
    have em : min p ((A0 (P 8 5 - 1) 4).toNat - 1) = p := by omega
    rw [em]
    have hxb := kxt_b (A := A0) (k := P 8 5 - 1) (s := P 8 7 - 1) ht p
    have hpd := pd_b hL (x := kxt A0 (P 8 5 - 1) (P 8 7 - 1) t0 p) (by omega)
    have hten := b10 p (by omega) (by omega)
    rw [← q10] at hten
    have r1 : Rg (A 10 p + kxt A0 (P 8 5 - 1) (P 8 7 - 1) t0 p * A (P 8 7 - 1) 1) := by constructor <;> omega
    generalize hA1 : UA A (P 8 5 - 1 + 1 + 1) p (A 10 p + kxt A0 (P 8 5 - 1) (P 8 7 - 1) t0 p * A (P 8 7 - 1) 1) = A1
    have F1 : TrF A0 A1 (P 8 5 - 1) := by rw [← hA1]; exact hF.row (by simp) (by omega)
    have R1 : RG A1 := by rw [← hA1]; exact rg_UA hR r1
    obtain ⟨d29, dk, db, db1, ds, hL1⟩ := TrF.e hp F1
    have ek4 : A1 (P 8 5 - 1) 4 = A0 (P 8 5 - 1) 4 := by rw [dk]
    have w5 : A1 (P 8 5 - 1 + 1) 5 = t0 := by rw [← hA1, UA_c (by omega)]; exact h5
    have w2 : A1 (P 8 5 - 1 + 1) 2 = A0 8 2 + t0 * A0 (P 8 7 - 1) 1 := by rw [← hA1, UA_c (by omega)]; exact h2
    have hw : A1 (P 8 5 - 1 + 1 + 1) p = A0 10 p + kxt A0 (P 8 5 - 1) (P 8 7 - 1) t0 p * A0 (P 8 7 - 1) 1 := by rw [← hA1, UA_eq, q10, cs]
    have hE1 : ∀ q : Nat, q < p → A1 (P 8 5 - 1 + 1 + 1) q = A (P 8 5 - 1 + 1 + 1) q ∧ A1 (P 8 5 - 1 + 1 + 2) q = A (P 8 5 - 1 + 1 + 2) q := fun q hq => by
      rw [← hA1, UA_j (by omega), UA_c (by omega)]; exact ⟨rfl, rfl⟩
    have hdc : k_dep A1 (P 8 5 - 1) (P 8 7 - 1) p (kxt A0 (P 8 5 - 1) (P 8 7 - 1) t0 p) 3 1 = k_dep A0 (P 8 5 - 1) (P 8 7 - 1) p (kxt A0 (P 8 5 - 1) (P 8 7 - 1) t0 p) 3 1 := k_dep_c dk ds (d29 9 (by decide)) (by rw [d29 8 (by decide)]) 3 1
    have hdb := dep_b (A := A1) (k := P 8 5 - 1) (s := P 8 7 - 1) (p := p) (t := kxt A0 (P 8 5 - 1) (P 8 7 - 1) t0 p)
    refine V83_59 hd hW hR hT hG ⟨⟨by omega, by omega⟩, ⟨by omega, by omega⟩⟩ ⟨g5, ga1, ga, ⟨by omega, by omega⟩, fun c => absurd c (by omega), fun _ => ⟨fun c => absurd c (by omega), fun _ => ?_⟩⟩
    rw [hA1, ek4]
    refine ⟨⟨by omega, by omega⟩, m7, hs.1.1, ⟨by omega, by omega⟩, r1, ⟨by omega, by omega, by omega⟩, m5, k3, ⟨by omega, by omega⟩, fun c => ⟨⟨by omega, by omega⟩, ?_⟩, fun c => ?_⟩
    · have := ih (p + 1) A1 (by omega) R1 F1 (fun q hq => ?_) w5 w2
      · rw [show min (p + 1) ((A0 (P 8 5 - 1) 4).toNat - 1) = p by omega] at this
        exact this
      · by_cases e : q = p
        · subst e; exact ⟨hw, fun z => absurd z (by omega)⟩
        · rw [(hE1 q (by omega)).1, (hE1 q (by omega)).2]; exact hE q (by omega)
    · generalize hA2 : UA A1 (P 8 5 - 1 + 1 + 2) p (k_dep A1 (P 8 5 - 1) (P 8 7 - 1) p (kxt A0 (P 8 5 - 1) (P 8 7 - 1) t0 p) 3 1) = A2
      have F2 : TrF A0 A2 (P 8 5 - 1) := by rw [← hA2]; exact F1.row (by simp) (by omega)
      have R2 : RG A2 := by rw [← hA2]; exact rg_UA R1 rg_dep
      obtain ⟨f29, fk, fb, fb1, fs, hL2⟩ := TrF.e hp F2
      have hyb := ykl_b (A := A2) (k := P 8 5 - 1) (p := p) hdb
      have hyl : ykl A2 (P 8 5 - 1) p (k_dep A1 (P 8 5 - 1) (P 8 7 - 1) p (kxt A0 (P 8 5 - 1) (P 8 7 - 1) t0 p) 3 1) = ykl A0 (P 8 5 - 1) p (k_dep A0 (P 8 5 - 1) (P 8 7 - 1) p (kxt A0 (P 8 5 - 1) (P 8 7 - 1) t0 p) 3 1) := by unfold ykl; rw [fk, hdc]
      refine ⟨gb1, hL1, ⟨by omega, by omega⟩, gb, ⟨by omega, by omega, by omega⟩, hL2, hdb, ⟨by omega, by omega⟩, ⟨by omega, by omega⟩, ?_⟩
      have := ih (p + 1) A2 (by omega) R2 F2 (fun q hq => ?_) (by rw [← hA2, UA_c (by omega)]; exact w5) (by rw [← hA2, UA_c (by omega)]; exact w2)
      · rw [show min (p + 1) ((A0 (P 8 5 - 1) 4).toNat - 1) = p + 1 by omega] at this
        rw [hyl]
        exact this
      · by_cases e : q = p
        · subst e; exact ⟨by rw [← hA2, UA_c (by omega)]; exact hw, fun _ => by rw [← hA2, UA_eq, hdc]⟩
        · rw [← hA2, UA_c (by omega), UA_j (by omega), (hE1 q (by omega)).1, (hE1 q (by omega)).2]; exact hE q (by omega)
theorem L83t {d : Nat} (hd : 4 ≤ d) {Q : Option Value → xM → Prop} {W : gW} (hW : HW W) {A : Nat → Int → Int} {P : Nat → Int → Nat} (hR : RG A) (hT : Stat W P) (hG : GL W) (hp : LyC W P A) (hB : TrB A (P 8 5 - 1)) :
    ∀ (r : Nat) (t : Int), 0 ≤ t → t + r = 3 → wpE (xT 83) (xev xT d) Q (59, [(0, .ref (lo W 8)), (1, .ref (lo W (P 8 5 - 1 + 1))), (2, .int (iz (ktz A (P 8 5 - 1) (P 8 6 - 1) (P 8 7 - 1) r t))), (3, .int (iz 0))], [], Wm W (UA (UA A (P 8 5 - 1 + 1) 5 (ktz A (P 8 5 - 1) (P 8 6 - 1) (P 8 7 - 1) r t)) (P 8 5 - 1 + 1) 2 (A 8 2 + ktz A (P 8 5 - 1) (P 8 6 - 1) (P 8 7 - 1) r t * A (P 8 7 - 1) 1)) P) → wpE (xT 83) (xev xT d) Q (2, [(0, .ref (lo W 8)), (1, .ref (lo W (P 8 5 - 1 + 1))), (2, .int (iz t))], [], Wm W A P) := by
  have hp' := hp
  obtain ⟨⟨m5, m6, m7⟩, hk, hb, hs, hd9⟩ := hp'
  have g5 := hk.2.2.1.1.1
  obtain ⟨b82, -⟩ := hB
  have e8 : ∀ (B : Nat → Int → Int) (j v i : Int), UA B (P 8 5 - 1 + 1) j v 8 i = B 8 i := fun B j v i => UA_c (by omega)
  have ns : ¬ P 8 7 - 1 = P 8 5 - 1 + 1 := fun e => by have := hs.1.1; rw [e] at this; omega
  have es : ∀ (B : Nat → Int → Int) (j v i : Int), UA B (P 8 5 - 1 + 1) j v (P 8 7 - 1) i = B (P 8 7 - 1) i := fun B j v i => UA_c ns
  have out : ∀ t : Int, (0 ≤ t ∧ t ≤ 3) → wpE (xT 83) (xev xT d) Q (59, [(0, .ref (lo W 8)), (1, .ref (lo W (P 8 5 - 1 + 1))), (2, .int (iz t)), (3, .int (iz 0))], [], Wm W (UA (UA A (P 8 5 - 1 + 1) 5 t) (P 8 5 - 1 + 1) 2 (A 8 2 + t * A (P 8 7 - 1) 1)) P) → (gK W (P 8 5 - 1 + 1) = 5) ∧ (¬ P 8 7 = 0) ∧ (gK W (P 8 7 - 1) = 6) ∧ (Rg (t * ((UA A (P 8 5 - 1 + 1) 5 t) (P 8 7 - 1) 1))) ∧ (Rg (((UA A (P 8 5 - 1 + 1) 5 t) 8 2) + (t * ((UA A (P 8 5 - 1 + 1) 5 t) (P 8 7 - 1) 1)))) ∧ wpE (xT 83) (xev xT d) Q (59, [(0, .ref (lo W 8)), (1, .ref (lo W (P 8 5 - 1 + 1))), (2, .int (iz t)), (3, .int (iz 0))], [], Wm W (UA (UA A (P 8 5 - 1 + 1) 5 t) (P 8 5 - 1 + 1) 2 (((UA A (P 8 5 - 1 + 1) 5 t) 8 2) + (t * ((UA A (P 8 5 - 1 + 1) 5 t) (P 8 7 - 1) 1)))) P) := fun t ht h => by
    have hpd := pd_b hp (x := t) (by omega)
    rw [e8, es]
    exact ⟨g5, m7, hs.1.1, ⟨by omega, by omega⟩, ⟨by omega, by omega⟩, h⟩
  intro r
  induction r with
  | zero =>
    intro t h0 h3 hQ
    exact V83_2 hd hW hR hT hG ⟨by omega, by omega⟩ ⟨fun _ => out t (by omega) hQ, fun c => absurd (by omega) c⟩
  | succ r ih =>
    intro t h0 h3 hQ
    unfold ktz at hQ
    refine V83_2 hd hW hR hT hG ⟨by omega, by omega⟩ ⟨fun c => absurd c (by omega), fun _ => ⟨hp, b82, by omega, fun c => ⟨⟨by omega, by omega⟩, ?_⟩, fun c => ⟨fun c2 => ?_, fun c2 => ⟨⟨by omega, by omega⟩, ?_⟩⟩⟩⟩
    · rw [if_neg (fun q => c q.1)] at hQ; exact ih (t + 1) (by omega) (by omega) hQ
    · rw [if_pos ⟨c, c2⟩] at hQ; exact out t (by omega) hQ
    · rw [if_neg (fun q => c2 q.2)] at hQ; exact ih (t + 1) (by omega) (by omega) hQ
theorem S83 {d : Nat} (hd : 5 ≤ d) {W : gW} (hW : HW W) {A : Nat → Int → Int} {P : Nat → Int → Nat} (hR : RG A) (hT : Stat W P) (hG : GL W) {a1 : Nat} (hp : (LyC W P A) ∧ (a1 = P 8 5 - 1 + 1) ∧ (TrB A (P 8 5 - 1))) : ∃ (A' : Nat → Int → Int), xev xT d 83 [.ref (lo W 8), .ref (lo W a1)] (Wm W A P) none (Wm W A' P) ∧ RG A' ∧ (TrS A A' (P 8 5 - 1) (P 8 6 - 1) (P 8 7 - 1)) := by
  refine xev_g (i := 83) (as := [.ref (lo W 8), .ref (lo W a1)]) (σ := Wm W A P) (Q := fun r_ σ_ => ∃ (A' : Nat → Int → Int), r_ = none ∧ σ_ = Wm W A' P ∧ RG A' ∧ (TrS A A' (P 8 5 - 1) (P 8 6 - 1) (P 8 7 - 1))) (D := 4) hd (Nat.le_of_ble_eq_true rfl) (fun r_ σ_ he hq => ?_) (fun d hd => V83_0 hd hW hR hT hG ?_)
  · obtain ⟨A', rfl, rfl, hq⟩ := hq
    exact ⟨A', he, hq⟩

  obtain ⟨p1, p2, p3⟩ := hp
  subst p2
  have hz := ktz_r (A := A) (k := P 8 5 - 1) (b := P 8 6 - 1) (s := P 8 7 - 1) 3 0
  have hpd := pd_b p1 (x := ktz A (P 8 5 - 1) (P 8 6 - 1) (P 8 7 - 1) 3 0) (by omega)
  have b82 := p3.1
  refine L83t hd hW hR hT hG p1 p3 3 0 (Int.le_refl 0) (by decide) ?_
  have r1 : Rg (ktz A (P 8 5 - 1) (P 8 6 - 1) (P 8 7 - 1) 3 0) := ⟨by omega, by omega⟩
  have r2 : Rg (A 8 2 + ktz A (P 8 5 - 1) (P 8 6 - 1) (P 8 7 - 1) 3 0 * A (P 8 7 - 1) 1) := ⟨by omega, by omega⟩
  exact L83p hd hW hT hG p1 p3 (t0 := ktz A (P 8 5 - 1) (P 8 6 - 1) (P 8 7 - 1) 3 0) ⟨by omega, by omega⟩ (fun A' hR' hF hE h5 h2 h6 h3 h4 => ⟨A', rfl, rfl, hR', hF, h5, h2, h6, h3, h4, hE⟩) _ 0 _ (Nat.zero_add _) (rg_UA (rg_UA hR r1) r2) ((Fo.rf.fld (by decide)).fld (by decide)) (fun p hp => absurd hp (by omega)) (by rw [UA_j (by decide), UA_eq]) (by rw [UA_eq])
