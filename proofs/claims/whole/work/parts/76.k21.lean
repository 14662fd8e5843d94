def kfw (A : Nat → Int → Int) (a : Nat) (v x n : Int) : Nat → Int → Int := fun c j => if c = a ∧ x ≤ j ∧ j < n then v else A c j
theorem rg_kfw {A : Nat → Int → Int} (h : RG A) {a : Nat} {v x n : Int} (hv : Rg v) : RG (kfw A a v x n) := fun c j => rg_ite hv (h c j)
theorem kfw_s {A : Nat → Int → Int} {a : Nat} {v x n : Int} (hn : x ≤ n) : UA (kfw A a v x n) a n v = kfw A a v x (n + 1) := by
  funext c j
  unfold UA kfw
  by_cases e : c = a ∧ j = n
  · rw [if_pos e, if_pos ⟨e.1, by omega, by omega⟩]
  · rw [if_neg e]
    by_cases e2 : c = a ∧ x ≤ j ∧ j < n
    · rw [if_pos e2, if_pos ⟨e2.1, e2.2.1, by omega⟩]
    · rw [if_neg e2, if_neg (fun q => e ⟨q.1, by
        apply Classical.byContradiction; intro z; exact e2 ⟨q.1, q.2.1, by omega⟩⟩)]
theorem kfw_0 {A : Nat → Int → Int} {a : Nat} {v x n : Int} (h : n ≤ x) : kfw A a v x n = A := by
  funext c j
  unfold kfw
  rw [if_neg (by omega)]
theorem kfw_c {A : Nat → Int → Int} {a c : Nat} {v x n : Int} (h : ¬ c = a) : kfw A a v x n c = A c := by
  funext j
  unfold kfw
  rw [if_neg (fun q => h q.1)]
/-- the most that is left on one bolt of the first b -/
def kRm (A : Nat → Int → Int) : Nat → Int
  | 0 => 0
  | b + 1 => max (kRm A b) (A 13 b)
theorem rg_kRm {A : Nat → Int → Int} (h : RG A) : ∀ b : Nat, Rg (kRm A b)
  | 0 => by show Rg 0; decide
  | b + 1 => by
    have ih := rg_kRm h b
    have h2 := h 13 b
    show Rg (max (kRm A b) (A 13 b))
    constructor <;> omega
def kmC (A : Nat → Int → Int) (R : Int) : Nat → Int → Int
  | 0, _ => 0
  | r + 1, n => (if ¬ A 12 n = -1 ∧ A 12 n ≤ R then 1 else 0) + kmC A R r (n + 1)
theorem kmC_b {A : Nat → Int → Int} {R : Int} : ∀ (r : Nat) (n : Int), 0 ≤ kmC A R r n ∧ kmC A R r n ≤ r
  | 0, _ => by show (0 : Int) ≤ 0 ∧ (0 : Int) ≤ 0; decide
  | r + 1, n => by
    have ih := kmC_b (A := A) (R := R) r (n + 1)
    unfold kmC
    split <;> omega
abbrev kMF (A : Nat → Int → Int) (k : Int) : Int := kmC A (kRm A 4) (8 - k).toNat k
theorem rg_kMF {A : Nat → Int → Int} {k : Int} (h : 0 ≤ k ∧ k ≤ 8) : Rg (kMF A k) := by
  have : 0 ≤ kMF A k ∧ kMF A k ≤ _ := kmC_b (A := A) (R := kRm A 4) (8 - k).toNat k
  constructor <;> omega
theorem V43_0 {d : Nat} (hd : 1 ≤ d) {Q : Option Value → xM → Prop} {W : gW} (hW : HW W) {A : Nat → Int → Int} {P : Nat → Int → Nat} (hR : RG A) (hT : Stat W P) (hG : GL W) {x1 x2 : Int} {a0 : Nat} (rr : Rg x1 ∧ Rg x2) (h : (gK W a0 = 6) ∧ (P a0 4 = (a0 + 2) + 1) ∧ (gK W (a0 + 2) = 20) ∧ (0 ≤ x2 ∧ x2 < gL W (a0 + 2) ∧ x2 ≤ 2147483647) ∧ (Rg (x1 + (A (a0 + 2) x2))) ∧ wpE (xT 43) (xev xT d) Q (19, [(0, .ref (lo W a0)), (2, .int (iz x2)), (3, .int (iz (min (x1 + (A (a0 + 2) x2)) (A a0 1)))), (4, .int (iz x1))], [], Wm W A P)) : wpE (xT 43) (xev xT d) Q (0, [(0, .ref (lo W a0)), (1, .int (iz x1)), (2, .int (iz x2))], [], Wm W A P) := by
  refine p_ild (cc3 c43_0) rfl ?_
  refine p_ald (cc3 c43_1) rfl ?_
  obtain ⟨g1, h⟩ := h
  obtain ⟨g2, h⟩ := h
  refine w_getp hW hT.1 (b := a0 + 2) (cc3 c43_2) g1 (ji := 4) rfl g2 ?_
  refine p_ild (cc3 c43_5) rfl ?_
  obtain ⟨g3, h⟩ := h
  obtain ⟨g4, h⟩ := h
  refine w_aldi hW (v := A (a0 + 2) x2) (cc3 c43_6) g3 g4 rfl ?_
  obtain ⟨g5, h⟩ := h
  refine (fun _ : Rg (x1 + (A (a0 + 2) x2)) => i_add (cc3 c43_7) ?_) g5
  refine p_ald (cc3 c43_8) rfl ?_
  refine w_geti hW (v := A a0 1) (cc3 c43_9) g1 (ji := 1) rfl rfl ?_
  refine p_callS (cc3 c43_12) (Nat.le_of_ble_eq_true rfl) rfl rfl (Nat.le_of_ble_eq_true rfl) (S36 (Nat.le_trans (by decide) hd) ⟨g5, (hR a0 1)⟩) ?_
  refine p_ist (ls' := [(3, .int (iz (min (x1 + (A (a0 + 2) x2)) (A a0 1)))), (0, .ref (lo W a0)), (1, .int (iz x1)), (2, .int (iz x2))]) (cc3 c43_15) (by decide) rfl ?_
  refine p_ild (cc3 c43_16) rfl ?_
  refine p_ist (ls' := [(4, .int (iz x1)), (3, .int (iz (min (x1 + (A (a0 + 2) x2)) (A a0 1)))), (0, .ref (lo W a0)), (1, .int (iz x1)), (2, .int (iz x2))]) (cc3 c43_17) (by decide) rfl ?_
  exact p_lc (ls' := [(0, .ref (lo W a0)), (2, .int (iz x2)), (3, .int (iz (min (x1 + (A (a0 + 2) x2)) (A a0 1)))), (4, .int (iz x1))]) c43_19 rfl rfl h
theorem V43_19 {d : Nat} (hd : 1 ≤ d) {Q : Option Value → xM → Prop} {W : gW} (hW : HW W) {A : Nat → Int → Int} {P : Nat → Int → Nat} (hR : RG A) (hT : Stat W P) (hG : GL W) {x2 x3 x4 : Int} {a0 : Nat} (rr : Rg x2 ∧ Rg x3 ∧ Rg x4) (h : (((x3 ≤ x4) → Q (some (.int (iz x3))) (Wm W A P)) ∧ (¬ (x3 ≤ x4) → (gK W a0 = 6) ∧ (P a0 6 = (a0 + 4) + 1) ∧ (P a0 3 = (a0 + 1) + 1) ∧ (gK W (a0 + 1) = 20) ∧ (0 ≤ x2 ∧ x2 < gL W (a0 + 1) ∧ x2 ≤ 2147483647) ∧ (gK W (a0 + 4) = 21) ∧ (0 ≤ x4 ∧ x4 < gL W (a0 + 4) ∧ x4 ≤ 2147483647) ∧ (Rg (x4 + 1)) ∧ wpE (xT 43) (xev xT d) Q (19, [(0, .ref (lo W a0)), (2, .int (iz x2)), (3, .int (iz x3)), (4, .int (iz (x4 + 1)))], [], Wm W (UA A (a0 + 4) x4 (b8 (A (a0 + 1) x2))) P)))) : wpE (xT 43) (xev xT d) Q (19, [(0, .ref (lo W a0)), (2, .int (iz x2)), (3, .int (iz x3)), (4, .int (iz x4))], [], Wm W A P) := by
  refine p_ild (cct c43_19 rfl) rfl ?_
  refine p_ild (cc3 c43_21) rfl ?_
  refine i_icmp (c' := x3 ≤ x4) (cc3 c43_22) (iz_le rr.2.1 rr.2.2) (fun c => ?_) (fun c => ?_)
  · have h := h.1 c
    refine p_ild (cc3 c43_45) rfl ?_
    exact p_ri (cc3 c43_46) trivial h
  · have h := h.2 c
    refine p_ald (cc3 c43_25) rfl ?_
    obtain ⟨g1, h⟩ := h
    obtain ⟨g2, h⟩ := h
    refine w_getp hW hT.1 (b := a0 + 4) (cc3 c43_26) g1 (ji := 6) rfl g2 ?_
    refine p_ild (cc3 c43_29) rfl ?_
    refine p_ald (cc3 c43_31) rfl ?_
    obtain ⟨g3, h⟩ := h
    refine w_getp hW hT.1 (b := a0 + 1) (cc3 c43_32) g1 (ji := 3) rfl g3 ?_
    refine p_ild (cc3 c43_35) rfl ?_
    obtain ⟨g4, h⟩ := h
    obtain ⟨g5, h⟩ := h
    refine w_aldi hW (v := A (a0 + 1) x2) (cc3 c43_36) g4 g5 rfl ?_
    refine i_un (z := b8 (A (a0 + 1) x2)) (cc3 c43_37) (iz_of _).symm ?_
    obtain ⟨g6, h⟩ := h
    obtain ⟨g7, h⟩ := h
    refine id (α := Rg (b8 (A (a0 + 1) x2)) → _) (fun _ => ?_) rg_b8; refine w_asti hW (cc3 c43_38) g6 g7 vnar8b ?_
    obtain ⟨g8, h⟩ := h
    refine (fun _ : Rg (x4 + 1) => i_iinc (n := 1) (y := x4 + 1) (ls' := [(4, .int (iz (x4 + 1))), (0, .ref (lo W a0)), (2, .int (iz x2)), (3, .int (iz x3))]) (cc3 c43_39) (by decide) rfl zl_1 (by first | rfl | omega) rfl ?_) g8
    refine p_goto (cc3 c43_42) ?_
    exact p_lc (ls' := [(0, .ref (lo W a0)), (2, .int (iz x2)), (3, .int (iz x3)), (4, .int (iz (x4 + 1)))]) c43_19 rfl rfl h

theorem rg_win {W : gW} {P : Nat → Int → Nat} {A : Nat → Int → Int} {a : Nat} {x y : Int} (h : OSt W P A a ∧ (0 ≤ x ∧ x ≤ 100000) ∧ (0 ≤ y ∧ y < A a 0) ∧ (0 ≤ A (a + 2) y ∧ A (a + 2) y ≤ 999)) : Rg (min (x + A (a + 2) y) (A a 1)) := by
  have := h.1.2.2.1.2.1
  have := h.2.1
  have := h.2.2.2
  constructor <;> omega
theorem L43 {d : Nat} (hd : 1 ≤ d) {Q : Option Value → xM → Prop} {W : gW} (hW : HW W) {A : Nat → Int → Int} {P : Nat → Int → Nat} (hR : RG A) (hT : Stat W P) (hG : GL W) {a : Nat} (hs : OSt W P A a) {s lo_ to : Int} (hs0 : 0 ≤ s ∧ s < A a 0) (h0 : 0 ≤ lo_) (hto : to ≤ A a 1) (rto : Rg to)
    (hQ : Q (some (.int (iz to))) (Wm W (kfw A (a + 4) (b8 (A (a + 1) s)) lo_ to) P)) :
    ∀ (n : Nat) (x : Int), lo_ ≤ x → x ≤ 100000 → (to - x).toNat = n → (x = lo_ ∨ x ≤ to) → wpE (xT 43) (xev xT d) Q (19, [(0, .ref (lo W a)), (2, .int (iz s)), (3, .int (iz to)), (4, .int (iz x))], [], Wm W (kfw A (a + 4) (b8 (A (a + 1) s)) lo_ x) P) := by
  obtain ⟨⟨k6, ka, kb, kc, kd⟩, ⟨q1, q2, q3, q4⟩, ⟨b1, b2, b3⟩, ⟨l1, l2, l3, l4⟩, -⟩ := hs
  intro n
  induction n with
  | zero =>
    intro x hx hx2 hn hor
    have e : kfw A (a + 4) (b8 (A (a + 1) s)) lo_ x = kfw A (a + 4) (b8 (A (a + 1) s)) lo_ to := by
      rcases hor with z | z
      · rw [kfw_0 (by omega), kfw_0 (by omega)]
      · rw [show x = to by omega]
    rw [← e] at hQ
    exact V43_19 hd hW (rg_kfw hR rg_b8) hT hG ⟨⟨by omega, by omega⟩, rto, ⟨by omega, by omega⟩⟩ ⟨fun _ => hQ, fun z => absurd (by omega) z⟩
  | succ n ih =>
    intro x hx hx2 hn hor
    have ec : kfw A (a + 4) (b8 (A (a + 1) s)) lo_ x (a + 1) = A (a + 1) := kfw_c (by omega)
    have := ih (x + 1) (by omega) (by omega) (by omega) (Or.inr (by omega))
    rw [← kfw_s hx] at this
    refine V43_19 hd hW (rg_kfw hR rg_b8) hT hG ⟨⟨by omega, by omega⟩, rto, ⟨by omega, by omega⟩⟩ ⟨fun z => absurd z (by omega), fun _ => ⟨k6, q4, q1, ka, ⟨by omega, by omega, by omega⟩, kd, ⟨by omega, by omega, by omega⟩, ⟨by omega, by omega⟩, ?_⟩⟩
    rw [ec]
    exact this
theorem S43 {d : Nat} (hd : 2 ≤ d) {W : gW} (hW : HW W) {A : Nat → Int → Int} {P : Nat → Int → Nat} (hR : RG A) (hT : Stat W P) (hG : GL W) {x1 x2 : Int} {a0 : Nat} (rr : Rg x1 ∧ Rg x2) (hp : (OSt W P A a0) ∧ (0 ≤ x1 ∧ x1 ≤ 100000) ∧ (0 ≤ x2 ∧ x2 < A a0 0) ∧ (0 ≤ A (a0 + 2) x2 ∧ A (a0 + 2) x2 ≤ 999)) : xev xT d 43 [.ref (lo W a0), .int (iz x1), .int (iz x2)] (Wm W A P) (some (.int (iz (min (x1 + A (a0 + 2) x2) (A a0 1))))) (Wm W (kfw A (a0 + 4) (b8 (A (a0 + 1) x2)) x1 (min (x1 + A (a0 + 2) x2) (A a0 1))) P) := by
  refine xev_i (D := 1) hd (Nat.le_of_ble_eq_true rfl) (fun d hd => V43_0 hd hW hR hT hG rr ?_)

  obtain ⟨p1, p2, p3, p4⟩ := hp
  have p1' := p1
  obtain ⟨⟨k6, ka, kb, kc, kd⟩, ⟨q1, q2, q3, q4⟩, ⟨b1, b2, b3⟩, ⟨l1, l2, l3, l4⟩, -⟩ := p1'
  have rto : Rg (min (x1 + A (a0 + 2) x2) (A a0 1)) := rg_win ⟨p1, p2, p3, p4⟩
  have := L43 (d := d) hd hW hR hT hG p1 (s := x2) (lo_ := x1) (to := min (x1 + A (a0 + 2) x2) (A a0 1)) p3 p2.1 (by omega) rto (Q := fun r' s' => r' = some (.int (iz (min (x1 + A (a0 + 2) x2) (A a0 1)))) ∧ s' = Wm W (kfw A (a0 + 4) (b8 (A (a0 + 1) x2)) x1 (min (x1 + A (a0 + 2) x2) (A a0 1))) P) ⟨rfl, rfl⟩ _ x1 (Int.le_refl _) (by omega) rfl (Or.inl rfl)
  rw [kfw_0 (Int.le_refl _)] at this
  exact ⟨k6, q2, kb, ⟨by omega, by omega, by omega⟩, ⟨by omega, by omega⟩, this⟩
theorem V113_0 {d : Nat} (hd : 1 ≤ d) {Q : Option Value → xM → Prop} {W : gW} (hW : HW W) {A : Nat → Int → Int} {P : Nat → Int → Nat} (hR : RG A) (hT : Stat W P) (hG : GL W) {x1 x2 : Int} (rr : Rg x1 ∧ Rg x2) (h : ((((A 11 4) < x1) → Q (some (.int (iz 1))) (Wm W A P)) ∧ (¬ ((A 11 4) < x1) → (((x1 = (A 11 4)) → (0 ≤ x2 ∧ x2 < 16) ∧ ((((A 11 5) ≤ (pc (x2).toNat)) → Q (some (.int (iz 0))) (Wm W A P)) ∧ (¬ ((A 11 5) ≤ (pc (x2).toNat)) → Q (some (.int (iz 1))) (Wm W A P)))) ∧ (¬ (x1 = (A 11 4)) → Q (some (.int (iz 0))) (Wm W A P)))))) : wpE (xT 113) (xev xT d) Q (0, [(0, .ref (lo W 11)), (1, .int (iz x1)), (2, .int (iz x2))], [], Wm W A P) := by
  refine p_ild (cc3 c113_0) rfl ?_
  refine p_ald (cc3 c113_1) rfl ?_
  refine w_geti hW (v := A 11 4) (cc3 c113_2) (st_k hT 11 2 (by decide)) (ji := 4) rfl rfl ?_
  refine i_icmp (c' := (A 11 4) < x1) (cc3 c113_5) (iz_lt (hR 11 4) rr.1) (fun c => ?_) (fun c => ?_)
  · have h := h.1 c
    refine p_lc (ls' := []) c113_27 rfl rfl ?_
    refine i_push (n := 1) (cct c113_27 rfl) zl_1 ?_
    refine p_goto (cc3 c113_28) ?_
    exact i_ri (cct c113_32 rfl) (by decide) h
  · have h := h.2 c
    refine p_ild (cc3 c113_8) rfl ?_
    refine p_ald (cc3 c113_9) rfl ?_
    refine w_geti hW (v := A 11 4) (cc3 c113_10) (st_k hT 11 2 (by decide)) (ji := 4) rfl rfl ?_
    refine i_icmp (c' := x1 = (A 11 4)) (cc3 c113_13) (iz_inj rr.1 (hR 11 4)) (fun c => ?_) (fun c => ?_)
    · have h := h.1 c
      refine p_ild (cc3 c113_16) rfl ?_
      obtain ⟨g1, h⟩ := h
      refine p_callS (cc3 c113_17) (Nat.le_of_ble_eq_true rfl) rfl rfl (Nat.le_of_ble_eq_true rfl) (S114 (Nat.le_trans (by decide) hd) rr.2 g1) ?_
      refine p_ald (cc3 c113_20) rfl ?_
      refine w_geti hW (v := A 11 5) (cc3 c113_21) (st_k hT 11 2 (by decide)) (ji := 5) rfl rfl ?_
      refine i_icmp (c' := (A 11 5) ≤ (pc (x2).toNat)) (cc3 c113_24) (iz_le (hR 11 5) (rg_pc g1)) (fun c => ?_) (fun c => ?_)
      · have h := h.1 c
        refine p_lc (ls' := []) c113_31 rfl rfl ?_
        refine i_push (n := 0) (cct c113_31 rfl) zl_0 ?_
        exact i_ri (cct c113_32 rfl) (by decide) h
      · have h := h.2 c
        refine p_lc (ls' := []) c113_27 rfl rfl ?_
        refine i_push (n := 1) (cct c113_27 rfl) zl_1 ?_
        refine p_goto (cc3 c113_28) ?_
        exact i_ri (cct c113_32 rfl) (by decide) h
    · have h := h.2 c
      refine p_lc (ls' := []) c113_31 rfl rfl ?_
      refine i_push (n := 0) (cct c113_31 rfl) zl_0 ?_
      exact i_ri (cct c113_32 rfl) (by decide) h
theorem S113 {d : Nat} (hd : 2 ≤ d) {W : gW} (hW : HW W) {A : Nat → Int → Int} {P : Nat → Int → Nat} (hR : RG A) (hT : Stat W P) (hG : GL W) {x1 x2 : Int} (rr : Rg x1 ∧ Rg x2) (hp : (0 ≤ x2 ∧ x2 < 16)) : xev xT d 113 [.ref (lo W 11), .int (iz x1), .int (iz x2)] (Wm W A P) (some (.int (iz (bI (A 11 4 < x1 ∨ (x1 = A 11 4 ∧ pc (x2).toNat < A 11 5)))))) (Wm W A P) := by
  refine xev_i (D := 1) hd (Nat.le_of_ble_eq_true rfl) (fun d hd => V113_0 hd hW hR hT hG rr ?_)

  exact ⟨fun c => ⟨vq (bI_t (Or.inl c)).symm, rfl⟩, fun c => ⟨fun c2 => ⟨hp, fun c3 => ⟨vq (bI_f (by omega)).symm, rfl⟩, fun c3 => ⟨vq (bI_t (by omega)).symm, rfl⟩⟩, fun c2 => ⟨vq (bI_f (by omega)).symm, rfl⟩⟩⟩
theorem V112_0 {d : Nat} (hd : 1 ≤ d) {Q : Option Value → xM → Prop} {W : gW} (hW : HW W) {A : Nat → Int → Int} {P : Nat → Int → Nat} (hR : RG A) (hT : Stat W P) (hG : GL W) {x1 : Int} (rr : Rg x1) (h : wpE (xT 112) (xev xT d) Q (4, [(0, .ref (lo W 11)), (1, .int (iz x1)), (2, .int (iz 0)), (3, .int (iz 0))], [], Wm W A P)) : wpE (xT 112) (xev xT d) Q (0, [(0, .ref (lo W 11)), (1, .int (iz x1))], [], Wm W A P) := by
  refine i_push (n := 0) (cc3 c112_0) zl_0 ?_
  refine p_ist (ls' := [(2, .int (iz 0)), (0, .ref (lo W 11)), (1, .int (iz x1))]) (cc3 c112_1) (by decide) rfl ?_
  refine i_push (n := 0) (cc3 c112_2) zl_0 ?_
  refine p_ist (ls' := [(3, .int (iz 0)), (2, .int (iz 0)), (0, .ref (lo W 11)), (1, .int (iz x1))]) (cc3 c112_3) (by decide) rfl ?_
  exact p_lc (ls' := [(0, .ref (lo W 11)), (1, .int (iz x1)), (2, .int (iz 0)), (3, .int (iz 0))]) c112_4 rfl rfl h
theorem V112_4 {d : Nat} (hd : 1 ≤ d) {Q : Option Value → xM → Prop} {W : gW} (hW : HW W) {A : Nat → Int → Int} {P : Nat → Int → Nat} (hR : RG A) (hT : Stat W P) (hG : GL W) {x1 x2 x3 : Int} (rr : Rg x1 ∧ Rg x2 ∧ Rg x3) (h : (((4 ≤ x3) → wpE (xT 112) (xev xT d) Q (31, [(0, .ref (lo W 11)), (2, .int (iz x2)), (3, .int (iz 0)), (4, .int (iz x1))], [], Wm W A P)) ∧ (¬ (4 ≤ x3) → (0 ≤ x3 ∧ x3 < 4) ∧ (Rg (x3 + 1)) ∧ wpE (xT 112) (xev xT d) Q (4, [(0, .ref (lo W 11)), (1, .int (iz x1)), (2, .int (iz (max x2 (A 13 x3)))), (3, .int (iz (x3 + 1)))], [], Wm W A P)))) : wpE (xT 112) (xev xT d) Q (4, [(0, .ref (lo W 11)), (1, .int (iz x1)), (2, .int (iz x2)), (3, .int (iz x3))], [], Wm W A P) := by
  refine p_ild (cct c112_4 rfl) rfl ?_
  refine i_push (n := 4) (cc3 c112_5) zl_4 ?_
  refine i_icmp (c' := 4 ≤ x3) (cc3 c112_6) (iz_le (by decide : Rg (4 : Int)) rr.2.2) (fun c => ?_) (fun c => ?_)
  · have h := h.1 c
    refine i_push (n := 0) (cc3 c112_26) zl_0 ?_
    refine p_ist (ls' := [(3, .int (iz 0)), (0, .ref (lo W 11)), (1, .int (iz x1)), (2, .int (iz x2))]) (cc3 c112_27) (by decide) rfl ?_
    refine p_ild (cc3 c112_28) rfl ?_
    refine p_ist (ls' := [(4, .int (iz x1)), (3, .int (iz 0)), (0, .ref (lo W 11)), (1, .int (iz x1)), (2, .int (iz x2))]) (cc3 c112_29) (by decide) rfl ?_
    exact p_lc (ls' := [(0, .ref (lo W 11)), (2, .int (iz x2)), (3, .int (iz 0)), (4, .int (iz x1))]) c112_31 rfl rfl h
  · have h := h.2 c
    refine p_ild (cc3 c112_9) rfl ?_
    refine p_ald (cc3 c112_10) rfl ?_
    refine w_getp hW hT.1 (b := 13) (cc3 c112_11) (st_k hT 11 2 (by decide)) (ji := 1) rfl (st_p hT 11 1 13 (by decide)) ?_
    refine p_ild (cc3 c112_14) rfl ?_
    obtain ⟨g1, h⟩ := h
    refine w_aldi hW (v := A 13 x3) (cc3 c112_15) (st_k hT 13 20 (by decide)) (st_i hT 13 4 (by decide) g1) rfl ?_
    refine p_callS (cc3 c112_16) (Nat.le_of_ble_eq_true rfl) rfl rfl (Nat.le_of_ble_eq_true rfl) (S61 (Nat.le_trans (by decide) hd) ⟨rr.2.1, (hR 13 x3)⟩) ?_
    refine p_ist (ls' := [(2, .int (iz (max x2 (A 13 x3)))), (0, .ref (lo W 11)), (1, .int (iz x1)), (3, .int (iz x3))]) (cc3 c112_19) (by decide) rfl ?_
    obtain ⟨g2, h⟩ := h
    refine (fun _ : Rg (x3 + 1) => i_iinc (n := 1) (y := x3 + 1) (ls' := [(3, .int (iz (x3 + 1))), (2, .int (iz (max x2 (A 13 x3)))), (0, .ref (lo W 11)), (1, .int (iz x1))]) (cc3 c112_20) (by decide) rfl zl_1 (by first | rfl | omega) rfl ?_) g2
    refine p_goto (cc3 c112_23) ?_
    exact p_lc (ls' := [(0, .ref (lo W 11)), (1, .int (iz x1)), (2, .int (iz (max x2 (A 13 x3)))), (3, .int (iz (x3 + 1)))]) c112_4 rfl rfl h
theorem V112_31 {d : Nat} (hd : 1 ≤ d) {Q : Option Value → xM → Prop} {W : gW} (hW : HW W) {A : Nat → Int → Int} {P : Nat → Int → Nat} (hR : RG A) (hT : Stat W P) (hG : GL W) {x2 x3 x4 : Int} (rr : Rg x2 ∧ Rg x3 ∧ Rg x4) (h : (((8 ≤ x4) → Q (some (.int (iz x3))) (Wm W A P)) ∧ (¬ (8 ≤ x4) → (0 ≤ x4 ∧ x4 < 8) ∧ ((((A 12 x4) = (-1)) → (Rg (x4 + 1)) ∧ wpE (xT 112) (xev xT d) Q (31, [(0, .ref (lo W 11)), (2, .int (iz x2)), (3, .int (iz x3)), (4, .int (iz (x4 + 1)))], [], Wm W A P)) ∧ (¬ ((A 12 x4) = (-1)) → (((x2 < (A 12 x4)) → (Rg (x4 + 1)) ∧ wpE (xT 112) (xev xT d) Q (31, [(0, .ref (lo W 11)), (2, .int (iz x2)), (3, .int (iz x3)), (4, .int (iz (x4 + 1)))], [], Wm W A P)) ∧ (¬ (x2 < (A 12 x4)) → (Rg (x3 + 1)) ∧ (Rg (x4 + 1)) ∧ wpE (xT 112) (xev xT d) Q (31, [(0, .ref (lo W 11)), (2, .int (iz x2)), (3, .int (iz (x3 + 1))), (4, .int (iz (x4 + 1)))], [], Wm W A P)))))))) : wpE (xT 112) (xev xT d) Q (31, [(0, .ref (lo W 11)), (2, .int (iz x2)), (3, .int (iz x3)), (4, .int (iz x4))], [], Wm W A P) := by
  refine p_ild (cct c112_31 rfl) rfl ?_
  refine i_push (n := 8) (cc3 c112_33) zl_8 ?_
  refine i_icmp (c' := 8 ≤ x4) (cc3 c112_35) (iz_le (by decide : Rg (8 : Int)) rr.2.2) (fun c => ?_) (fun c => ?_)
  · have h := h.1 c
    refine p_ild (cc3 c112_69) rfl ?_
    exact p_ri (cc3 c112_70) trivial h
  · have h := h.2 c
    refine p_ald (cc3 c112_38) rfl ?_
    refine w_getp hW hT.1 (b := 12) (cc3 c112_39) (st_k hT 11 2 (by decide)) (ji := 0) rfl (st_p hT 11 0 12 (by decide)) ?_
    refine p_ild (cc3 c112_42) rfl ?_
    obtain ⟨g1, h⟩ := h
    refine w_aldi hW (v := A 12 x4) (cc3 c112_44) (st_k hT 12 20 (by decide)) (st_i hT 12 8 (by decide) g1) rfl ?_
    refine i_push (n := (-1)) (cc3 c112_45) zl_m1 ?_
    refine i_icmp (c' := (A 12 x4) = (-1)) (cc3 c112_46) (iz_inj (hR 12 x4) (by decide : Rg (-1 : Int))) (fun c => ?_) (fun c => ?_)
    · have h := h.1 c
      obtain ⟨g2, h⟩ := h
      refine (fun _ : Rg (x4 + 1) => i_iinc (n := 1) (y := x4 + 1) (ls' := [(4, .int (iz (x4 + 1))), (0, .ref (lo W 11)), (2, .int (iz x2)), (3, .int (iz x3))]) (cct c112_63 rfl) (by decide) rfl zl_1 (by first | rfl | omega) rfl ?_) g2
      refine p_goto (cc3 c112_66) ?_
      exact p_lc (ls' := [(0, .ref (lo W 11)), (2, .int (iz x2)), (3, .int (iz x3)), (4, .int (iz (x4 + 1)))]) c112_31 rfl rfl h
    · have h := h.2 c
      refine p_ald (cc3 c112_49) rfl ?_
      refine w_getp hW hT.1 (b := 12) (cc3 c112_50) (st_k hT 11 2 (by decide)) (ji := 0) rfl (st_p hT 11 0 12 (by decide)) ?_
      refine p_ild (cc3 c112_53) rfl ?_
      refine w_aldi hW (v := A 12 x4) (cc3 c112_55) (st_k hT 12 20 (by decide)) (st_i hT 12 8 (by decide) g1) rfl ?_
      refine p_ild (cc3 c112_56) rfl ?_
      refine i_icmp (c' := x2 < (A 12 x4)) (cc3 c112_57) (iz_lt rr.1 (hR 12 x4)) (fun c => ?_) (fun c => ?_)
      · have h := h.1 c
        obtain ⟨g2, h⟩ := h
        refine (fun _ : Rg (x4 + 1) => i_iinc (n := 1) (y := x4 + 1) (ls' := [(4, .int (iz (x4 + 1))), (0, .ref (lo W 11)), (2, .int (iz x2)), (3, .int (iz x3))]) (cct c112_63 rfl) (by decide) rfl zl_1 (by first | rfl | omega) rfl ?_) g2
        refine p_goto (cc3 c112_66) ?_
        exact p_lc (ls' := [(0, .ref (lo W 11)), (2, .int (iz x2)), (3, .int (iz x3)), (4, .int (iz (x4 + 1)))]) c112_31 rfl rfl h
      · have h := h.2 c
        obtain ⟨g2, h⟩ := h
        refine (fun _ : Rg (x3 + 1) => i_iinc (n := 1) (y := x3 + 1) (ls' := [(3, .int (iz (x3 + 1))), (0, .ref (lo W 11)), (2, .int (iz x2)), (4, .int (iz x4))]) (cc3 c112_60) (by decide) rfl zl_1 (by first | rfl | omega) rfl ?_) g2
        refine p_lc (ls' := [(0, .ref (lo W 11)), (2, .int (iz x2)), (3, .int (iz (x3 + 1))), (4, .int (iz x4))]) c112_63 rfl rfl ?_
        obtain ⟨g3, h⟩ := h
        refine (fun _ : Rg (x4 + 1) => i_iinc (n := 1) (y := x4 + 1) (ls' := [(4, .int (iz (x4 + 1))), (0, .ref (lo W 11)), (2, .int (iz x2)), (3, .int (iz (x3 + 1)))]) (cct c112_63 rfl) (by decide) rfl zl_1 (by first | rfl | omega) rfl ?_) g3
        refine p_goto (cc3 c112_66) ?_
        exact p_lc (ls' := [(0, .ref (lo W 11)), (2, .int (iz x2)), (3, .int (iz (x3 + 1))), (4, .int (iz (x4 + 1)))]) c112_31 rfl rfl h

theorem L112b {d : Nat} (hd : 1 ≤ d) {Q : Option Value → xM → Prop} {W : gW} (hW : HW W) {A : Nat → Int → Int} {P : Nat → Int → Nat} (hR : RG A) (hT : Stat W P) (hG : GL W) {R : Int} (rR : Rg R) :
    ∀ (r : Nat) (n m : Int), n + r = 8 → 0 ≤ n → 0 ≤ m ∧ m ≤ n → Q (some (.int (iz (m + kmC A R r n)))) (Wm W A P) → wpE (xT 112) (xev xT d) Q (31, [(0, .ref (lo W 11)), (2, .int (iz R)), (3, .int (iz m)), (4, .int (iz n))], [], Wm W A P) := by
  intro r
  induction r with
  | zero =>
    intro n m hn h0 hm hQ
    have e : m + kmC A R 0 n = m := by show m + 0 = m; omega
    rw [e] at hQ
    exact V112_31 hd hW hR hT hG ⟨rR, ⟨by omega, by omega⟩, ⟨by omega, by omega⟩⟩ ⟨fun _ => hQ, fun z => absurd (by omega) z⟩
  | succ r ih =>
    intro n m hn h0 hm hQ
    have e : kmC A R (r + 1) n = (if ¬ A 12 n = -1 ∧ A 12 n ≤ R then 1 else 0) + kmC A R r (n + 1) := rfl
    rw [e] at hQ
    refine V112_31 hd hW hR hT hG ⟨rR, ⟨by omega, by omega⟩, ⟨by omega, by omega⟩⟩ ⟨fun z => absurd z (by omega), fun _ => ⟨⟨by omega, by omega⟩, fun c => ⟨⟨by omega, by omega⟩, ?_⟩, fun c => ⟨fun c2 => ⟨⟨by omega, by omega⟩, ?_⟩, fun c2 => ⟨⟨by omega, by omega⟩, ⟨by omega, by omega⟩, ?_⟩⟩⟩⟩
    · rw [if_neg (fun q => q.1 c), Int.zero_add] at hQ
      exact ih (n + 1) m (by omega) (by omega) (by omega) hQ
    · rw [if_neg (fun q => by have := q.2; omega), Int.zero_add] at hQ
      exact ih (n + 1) m (by omega) (by omega) (by omega) hQ
    · rw [if_pos ⟨c, by omega⟩, ← Int.add_assoc] at hQ
      exact ih (n + 1) (m + 1) (by omega) (by omega) (by omega) hQ
theorem L112a {d : Nat} (hd : 1 ≤ d) {Q : Option Value → xM → Prop} {W : gW} (hW : HW W) {A : Nat → Int → Int} {P : Nat → Int → Nat} (hR : RG A) (hT : Stat W P) (hG : GL W) {k : Int} (hk : 0 ≤ k ∧ k ≤ 8) (hQ : Q (some (.int (iz (kMF A k)))) (Wm W A P)) :
    ∀ (r b : Nat), b + r = 4 → wpE (xT 112) (xev xT d) Q (4, [(0, .ref (lo W 11)), (1, .int (iz k)), (2, .int (iz (kRm A b))), (3, .int (iz b))], [], Wm W A P) := by
  intro r
  induction r with
  | zero =>
    intro b hb
    have e : b = 4 := hb
    subst e
    exact V112_4 hd hW hR hT hG ⟨⟨by omega, by omega⟩, rg_kRm hR 4, by decide⟩ ⟨fun _ => L112b hd hW hR hT hG (rg_kRm hR 4) (8 - k).toNat k 0 (by omega) hk.1 (by omega) (by rw [Int.zero_add]; exact hQ), fun z => absurd (by decide) z⟩
  | succ r ih =>
    intro b hb
    have := ih (b + 1) (by omega)
    exact V112_4 hd hW hR hT hG ⟨⟨by omega, by omega⟩, rg_kRm hR b, ⟨by omega, by omega⟩⟩ ⟨fun z => absurd z (by omega), fun _ => ⟨⟨by omega, by omega⟩, ⟨by omega, by omega⟩, this⟩⟩
theorem S112 {d : Nat} (hd : 2 ≤ d) {W : gW} (hW : HW W) {A : Nat → Int → Int} {P : Nat → Int → Nat} (hR : RG A) (hT : Stat W P) (hG : GL W) {x1 : Int} (rr : Rg x1) (hp : (0 ≤ x1 ∧ x1 ≤ 8)) : xev xT d 112 [.ref (lo W 11), .int (iz x1)] (Wm W A P) (some (.int (iz (kMF A x1)))) (Wm W A P) := by
  refine xev_i (D := 1) hd (Nat.le_of_ble_eq_true rfl) (fun d hd => V112_0 hd hW hR hT hG rr ?_)

  exact L112a (Q := fun r' s' => r' = some (.int (iz (kMF A x1))) ∧ s' = Wm W A P) hd hW hR hT hG hp ⟨rfl, rfl⟩ 4 0 rfl
