abbrev SeW (W : gW) (a n p : Nat) : gW := gN (gN (gN (gN W (a + 1) 20 n) (a + 2) 20 n) (a + 3) 20 n) (a + 4) 21 p
abbrev SeP1 (P : Nat → Int → Nat) (a : Nat) : Nat → Int → Nat := UP (ZP P (a + 1)) a 3 ((a + 1) + 1)
abbrev SeP2 (P : Nat → Int → Nat) (a : Nat) : Nat → Int → Nat := UP (ZP (SeP1 P a) (a + 2)) a 4 ((a + 2) + 1)
abbrev SeP3 (P : Nat → Int → Nat) (a : Nat) : Nat → Int → Nat := UP (ZP (SeP2 P a) (a + 3)) a 5 ((a + 3) + 1)
abbrev SeP (P : Nat → Int → Nat) (a : Nat) : Nat → Int → Nat := UP (ZP (SeP3 P a) (a + 4)) a 6 ((a + 4) + 1)
theorem UP_n {P : Nat → Int → Nat} {c c' v : Nat} {j : Int} (h : ¬ c' = c) : UP P c j v c' = P c' := by funext i; unfold UP; rw [if_neg (fun z => h z.1)]
theorem UP_j {P : Nat → Int → Nat} {c c' v : Nat} {j j' : Int} (h : ¬ j' = j) : UP P c j v c' j' = P c' j' := by unfold UP; rw [if_neg (fun z => h z.2)]
theorem UP_e {P : Nat → Int → Nat} {c v : Nat} {j : Int} : UP P c j v c j = v := by unfold UP; rw [if_pos ⟨rfl, rfl⟩]
theorem UA_n {A : Nat → Int → Int} {c c' : Nat} {j v : Int} (h : ¬ c' = c) : UA A c j v c' = A c' := funext fun i => UA_c h
theorem S42 {d : Nat} (hd : 3 ≤ d) {W : gW} (hW : HW W) {A : Nat → Int → Int} {P : Nat → Int → Nat} (hR : RG A) (hT : Stat W P) (hG : GL W) {n p : Nat} {a : Nat} (ha : 29 ≤ a ∧ gK W a = 6 ∧ gK W (a + 1) = 0 ∧ gK W (a + 2) = 0 ∧ gK W (a + 3) = 0 ∧ gK W (a + 4) = 0) (hn : A 3 2 = (n : Int) ∧ 1 ≤ n ∧ n ≤ 10) (htb : A 3 3 = 0 ∨ A 3 3 = 1) (hc : ∀ k : Int, 0 ≤ k → k < n → (0 ≤ A 4 k ∧ A 4 k ≤ 7) ∧ 1 ≤ A 5 k ∧ A 5 k ≤ 999) (hp : sm (perK A) n = (p : Int) ∧ p ≤ 400) :
    ∃ A' : Nat → Int → Int, xev xT d 42 [.ref (lo W a), .ref (lo W 3)] (Wm W A P) none (Wm (SeW W a n p) A' (SeP P a)) ∧ HW (SeW W a n p) ∧ RG A' ∧ Stat (SeW W a n p) (SeP P a) ∧ GL (SeW W a n p) ∧ (∀ c, c < a ∨ a + 5 ≤ c → A' c = A c) ∧ OSt (SeW W a n p) (SeP P a) A' a ∧ (A' a 0 = (n : Int) ∧ A' a 1 = (p : Int) ∧ A' a 2 = A 3 3) ∧ (∀ k : Int, 0 ≤ k → k < n → A' (a + 1) k = A 4 k ∧ A' (a + 2) k = A 5 k) ∧ SeF A' a n p ∧ SeC A' a n := by
  obtain ⟨h9, k6, h1, h2, h3, h4⟩ := ha
  obtain ⟨hn, n1, n10⟩ := hn
  obtain ⟨hp, p400⟩ := hp
  have k4 : gK W 4 = 20 := st_k hT 4 20 (by decide)
  have k5 : gK W 5 = 20 := st_k hT 5 20 (by decide)
  have g4 : gL W 4 = 10 := (hT.2.1 4 (by decide)).2.1
  have g5 : gL W 5 = 10 := (hT.2.1 5 (by decide)).2.1
  have rp : Rg (p : Int) := ⟨by omega, by omega⟩
  have rn : Rg (n : Int) := ⟨by omega, by omega⟩
  -- the numbers at the start
  have u1 : UA A a 0 (n : Int) 3 = A 3 := UA_n (by omega)
  have u2 : ∀ c, c = 3 ∨ c = 4 ∨ c = 5 → UA (UA A a 0 (n : Int)) a 2 (A 3 3) c = A c := fun c hc => (UA_n (by omega)).trans (UA_n (by omega))
  have u3 : perK (UA (UA A a 0 (n : Int)) a 2 (A 3 3)) = perK A := by funext i; unfold perK; rw [u2 5 (by omega), u2 3 (by omega)]
  have R0 : RG (UA (UA (UA A a 0 (n : Int)) a 2 (A 3 3)) a 1 (p : Int)) := rg_UA (rg_UA (rg_UA hR rn) (hR 3 3)) rp
  have f0 : ∀ c, ¬ c = a → UA (UA (UA A a 0 (n : Int)) a 2 (A 3 3)) a 1 (p : Int) c = A c := fun c hc => (UA_n hc).trans ((UA_n hc).trans (UA_n hc))
  have a0 : UA (UA (UA A a 0 (n : Int)) a 2 (A 3 3)) a 1 (p : Int) a 0 = n := by rw [UA_j (by decide), UA_j (by decide), UA_eq]
  have a1 : UA (UA (UA A a 0 (n : Int)) a 2 (A 3 3)) a 1 (p : Int) a 1 = p := UA_eq
  have a2 : UA (UA (UA A a 0 (n : Int)) a 2 (A 3 3)) a 1 (p : Int) a 2 = A 3 3 := by rw [UA_j (by decide), UA_eq]
  generalize hB : UA (UA (UA A a 0 (n : Int)) a 2 (A 3 3)) a 1 (p : Int) = B at *
  -- the first copy
  have W1 : HW (gN W (a + 1) 20 n) := gN_ok hW h1 (by decide)
  have T1 : Stat (gN W (a + 1) 20 n) (ZP P (a + 1)) := hT.gN hG h1 (by omega) (by decide)
  have G1 : GL (gN W (a + 1) 20 n) := hG.gN h1
  have T1' : Stat (gN W (a + 1) 20 n) (SeP1 P a) := Stat.up (v := (a + 1) + 1) T1 (po_d (j := 3) h9 (by decide)) (Or.inr (by rw [NZ, Nat.add_sub_cancel, gN_K_e]; decide))
  obtain ⟨A1, x1, R1, f1, c1⟩ := S35 (d := 2) (by decide) hW R0 hT hG (x := (n : Int)) (a := 4) (c := a + 1) ⟨k4, h1, by omega⟩ ⟨by omega, by rw [g4]; omega, by rw [g4]; decide⟩
  rw [Int.toNat_natCast] at x1
  have kb2 : gK (gN W (a + 1) 20 n) (a + 2) = 0 := (by simp only [SeW, gN_K, ite_true, ite_false] <;> (repeat' split) <;> first | assumption | rfl | omega)
  have W2 : HW (gN (gN W (a + 1) 20 n) (a + 2) 20 n) := gN_ok W1 kb2 (by decide)
  have T2 : Stat (gN (gN W (a + 1) 20 n) (a + 2) 20 n) (ZP (SeP1 P a) (a + 2)) := T1'.gN G1 kb2 (by omega) (by decide)
  have G2 : GL (gN (gN W (a + 1) 20 n) (a + 2) 20 n) := G1.gN kb2
  have T2' : Stat (gN (gN W (a + 1) 20 n) (a + 2) 20 n) (SeP2 P a) := Stat.up (v := (a + 2) + 1) T2 (po_d (j := 4) h9 (by decide)) (Or.inr (by rw [NZ, Nat.add_sub_cancel, gN_K_e]; decide))
  have k5' : gK (gN W (a + 1) 20 n) 5 = 20 := (by simp only [SeW, gN_K, ite_true, ite_false] <;> (repeat' split) <;> first | assumption | rfl | omega)
  have g5' : gL (gN W (a + 1) 20 n) 5 = 10 := (by simp only [SeW, gN_L, ite_true, ite_false] <;> (repeat' split) <;> first | assumption | rfl | omega)
  obtain ⟨A2, x2, R2, f2, c2⟩ := S35 (d := 2) (by decide) W1 R1 T1' G1 (x := (n : Int)) (a := 5) (c := a + 2) ⟨k5', kb2, by omega⟩ ⟨by omega, by rw [g5']; omega, by rw [g5']; decide⟩
  rw [Int.toNat_natCast] at x2
  have kb3 : gK (gN (gN W (a + 1) 20 n) (a + 2) 20 n) (a + 3) = 0 := (by simp only [SeW, gN_K, ite_true, ite_false] <;> (repeat' split) <;> first | assumption | rfl | omega)
  have W3 : HW (gN (gN (gN W (a + 1) 20 n) (a + 2) 20 n) (a + 3) 20 n) := gN_ok W2 kb3 (by decide)
  have T3 : Stat (gN (gN (gN W (a + 1) 20 n) (a + 2) 20 n) (a + 3) 20 n) (ZP (SeP2 P a) (a + 3)) := T2'.gN G2 kb3 (by omega) (by decide)
  have G3 : GL (gN (gN (gN W (a + 1) 20 n) (a + 2) 20 n) (a + 3) 20 n) := G2.gN kb3
  have T3' : Stat (gN (gN (gN W (a + 1) 20 n) (a + 2) 20 n) (a + 3) 20 n) (SeP3 P a) := Stat.up (v := (a + 3) + 1) T3 (po_d (j := 5) h9 (by decide)) (Or.inr (by rw [NZ, Nat.add_sub_cancel, gN_K_e]; decide))
  have kb4 : gK (gN (gN (gN W (a + 1) 20 n) (a + 2) 20 n) (a + 3) 20 n) (a + 4) = 0 := (by simp only [SeW, gN_K, ite_true, ite_false] <;> (repeat' split) <;> first | assumption | rfl | omega)
  have W4 : HW (SeW W a n p) := gN_ok W3 kb4 (by decide)
  have T4 : Stat (SeW W a n p) (ZP (SeP3 P a) (a + 4)) := T3'.gN G3 kb4 (by omega) (by decide)
  have G4 : GL (SeW W a n p) := G3.gN kb4
  have T4' : Stat (SeW W a n p) (SeP P a) := Stat.up (v := (a + 4) + 1) T4 (po_d (j := 6) h9 (by decide)) (Or.inr (by rw [NZ, Nat.add_sub_cancel, gN_K_e]; decide))
  have e2a : A2 a = B a := (f2 a (by omega)).trans (f1 a (by omega))
  have R3 : RG (ZA A2 (a + 3)) := rg_ZA R2
  have R4 : RG (ZA (ZA A2 (a + 3)) (a + 4)) := rg_ZA R3
  have z3 : ZA A2 (a + 3) a = B a := (ZA_n (by omega)).trans e2a
  have z4 : ZA (ZA A2 (a + 3)) (a + 4) a = B a := (ZA_n (by omega)).trans z3
  have z41 : ∀ k : Int, 0 ≤ k → k < n → ZA (ZA A2 (a + 3)) (a + 4) (a + 1) k = A 4 k ∧ ZA (ZA A2 (a + 3)) (a + 4) (a + 2) k = A 5 k := fun k q1 q2 => by
    rw [ZA_n (by omega), ZA_n (by omega), ZA_n (by omega), ZA_n (by omega), f2 (a + 1) (by omega), c1 k q1 q2, c2 k q1 q2, f1 5 (by omega), f0 4 (by omega), f0 5 (by omega)]
    exact ⟨rfl, rfl⟩
  have z43 : ∀ k, ZA (ZA A2 (a + 3)) (a + 4) (a + 3) k = 0 := fun k => by rw [ZA_n (by omega), ZA_e]
  have zF : ∀ c, c < a ∨ a + 5 ≤ c → ZA (ZA A2 (a + 3)) (a + 4) c = A c := fun c hc => by
    rw [ZA_n (by omega), ZA_n (by omega), f2 c (by omega), f1 c (by omega), f0 c (by omega)]
  generalize hE : ZA (ZA A2 (a + 3)) (a + 4) = E at *
  have hN : SeN E a n := fun k q1 q2 => by rw [(z41 k q1 q2).1, (z41 k q1 q2).2]; exact hc k q1 q2
  have hO : OSt (SeW W a n p) (SeP P a) E a := by
    have sm1 : 1 ≤ sm (perK A) n := by
      have q0 := (hc 0 (by decide) (by omega)).2.1
      have q : sm (perK A) 1 ≤ sm (perK A) n := sm_mono (fun k hk => by unfold perK; exact Int.mul_nonneg (by have := (hc k (by omega) (by omega)).2.1; omega) (by split <;> decide)) n1
      have q2 : sm (perK A) 1 = 0 + A 5 ((0 : Nat) : Int) * (if ¬ A 3 3 = 0 ∧ 0 < ((0 : Nat) : Int) ∧ ((0 : Nat) : Int) < A 3 2 - 1 then 2 else 1) := rfl
      rw [if_neg (fun z => absurd z.2.1 (by decide))] at q2
      have q3 : A 5 ((0 : Nat) : Int) = A 5 0 := rfl
      omega
    refine ⟨⟨(by simp only [SeW, gN_K, ite_true, ite_false] <;> (repeat' split) <;> first | assumption | rfl | omega), (by simp only [SeW, gN_K, ite_true, ite_false] <;> (repeat' split) <;> first | assumption | rfl | omega), (by simp only [SeW, gN_K, ite_true, ite_false] <;> (repeat' split) <;> first | assumption | rfl | omega), (by simp only [SeW, gN_K, ite_true, ite_false] <;> (repeat' split) <;> first | assumption | rfl | omega), (by simp only [SeW, gN_K, ite_true, ite_false] <;> (repeat' split) <;> first | assumption | rfl | omega)⟩, ⟨?_, ?_, ?_, ?_⟩, ⟨by rw [z4, a0]; omega, by rw [z4, a1]; omega, by rw [z4, a2]; exact htb⟩, ⟨?_, ?_, ?_, ?_⟩, fun k _ _ => by rw [z43]; decide⟩
    · unfold SeP SeP3 SeP2 SeP1; rw [UP_j (by decide), ZP_n (by omega), UP_j (by decide), ZP_n (by omega), UP_j (by decide), ZP_n (by omega), UP_e]
    · unfold SeP SeP3 SeP2 SeP1; rw [UP_j (by decide), ZP_n (by omega), UP_j (by decide), ZP_n (by omega), UP_e]
    · unfold SeP SeP3 SeP2 SeP1; rw [UP_j (by decide), ZP_n (by omega), UP_e]
    · unfold SeP; rw [UP_e]
    · rw [z4, a0, show gL (SeW W a n p) (a + 1) = n from (by simp only [SeW, gN_L, ite_true, ite_false] <;> (repeat' split) <;> first | assumption | rfl | omega)]
    · rw [z4, a0, show gL (SeW W a n p) (a + 2) = n from (by simp only [SeW, gN_L, ite_true, ite_false] <;> (repeat' split) <;> first | assumption | rfl | omega)]
    · rw [z4, a0, show gL (SeW W a n p) (a + 3) = n from (by simp only [SeW, gN_L, ite_true, ite_false] <;> (repeat' split) <;> first | assumption | rfl | omega)]
    · rw [z4, a1, show gL (SeW W a n p) (a + 4) = p from (by simp only [SeW, gN_L, ite_true, ite_false] <;> (repeat' split) <;> first | assumption | rfl | omega)]
  have hpE : (p : Int) = if E a 2 = 0 then sm (E (a + 2)) n else sm (E (a + 2)) n + Bk (E (a + 2)) ((n : Int) - 2).toNat := by
    have q1 : sm (perK A) n = sm (fun i => E (a + 2) i * (if ¬ A 3 3 = 0 ∧ 0 < i ∧ i < (n : Int) - 1 then 2 else 1)) n := sm_congr (fun k hk => by
      unfold perK
      rw [(z41 k (by omega) (by omega)).2, hn])
    rw [z4, a2, ← hp, q1]
    by_cases e : A 3 3 = 0
    · rw [if_pos e, per_fw e]
    · rw [if_neg e]
      have := per_bk (w := E (a + 2)) (tb := A 3 3) (n := (n : Int)) (by omega) e
      rw [Int.toNat_natCast] at this
      exact this
  refine xev_g (i := 42) (as := [.ref (lo W a), .ref (lo W 3)]) (σ := Wm W A P) (Q := fun r_ σ_ => ∃ A' : Nat → Int → Int, r_ = none ∧ σ_ = Wm (SeW W a n p) A' (SeP P a) ∧ HW (SeW W a n p) ∧ RG A' ∧ Stat (SeW W a n p) (SeP P a) ∧ GL (SeW W a n p) ∧ (∀ c, c < a ∨ a + 5 ≤ c → A' c = A c) ∧ OSt (SeW W a n p) (SeP P a) A' a ∧ (A' a 0 = (n : Int) ∧ A' a 1 = (p : Int) ∧ A' a 2 = A 3 3) ∧ (∀ k : Int, 0 ≤ k → k < n → A' (a + 1) k = A 4 k ∧ A' (a + 2) k = A 5 k) ∧ SeF A' a n p ∧ SeC A' a n) (D := 2) hd (Nat.le_of_ble_eq_true rfl) (fun r_ σ_ he hq => ?_) (fun d hd => V42_0 hd hW hR hT hG ?_)
  · obtain ⟨A', rfl, rfl, hq⟩ := hq
    exact ⟨A', he, hq⟩
  rw [hn, u1]
  refine ⟨k6, htb, by rw [u2 3 (by omega), hn]; omega, fun i q1 q2 => by rw [u2 3 (by omega), hn] at q2; rw [u2 5 (by omega)]; have := (hc i q1 q2).2; omega, ?_⟩
  rw [u3, u2 3 (by omega), hn, Int.toNat_natCast, hp, hB]
  refine p_callS (cc3 c42_37) (Nat.le_of_ble_eq_true rfl) rfl rfl (Nat.le_of_ble_eq_true rfl) (xev_le hd x1) ?_
  show wpE _ _ _ (40, [(0, .ref (lo W a)), (1, .ref (lo W 3))], [.ref (lo (gN W (a + 1) 20 n) (a + 1)), .ref (lo W a)], _)
  rw [show lo W a = lo (gN W (a + 1) 20 n) a from (by simp only [SeW, gN_lo, ite_true, ite_false] <;> (repeat' split) <;> first | rfl | omega), show lo W 3 = lo (gN W (a + 1) 20 n) 3 from (by simp only [SeW, gN_lo, ite_true, ite_false] <;> (repeat' split) <;> first | rfl | omega)]
  refine V42_40 hd W1 R1 T1 G1 ⟨h9, (by simp only [SeW, gN_K, ite_true, ite_false] <;> (repeat' split) <;> first | assumption | rfl | omega), by rw [NZ, gN_K_e]; decide, (by simp only [SeW, gN_K, ite_true, ite_false] <;> (repeat' split) <;> first | assumption | rfl | omega), ?_⟩
  rw [show A1 a 0 = (n : Int) by rw [f1 a (by omega), a0]]
  refine p_callS (cc3 c42_52) (Nat.le_of_ble_eq_true rfl) rfl rfl (Nat.le_of_ble_eq_true rfl) (xev_le hd x2) ?_
  show wpE _ _ _ (55, [(0, .ref (lo (gN W (a + 1) 20 n) a)), (1, .ref (lo (gN W (a + 1) 20 n) 3))], [.ref (lo (gN (gN W (a + 1) 20 n) (a + 2) 20 n) (a + 2)), .ref (lo (gN W (a + 1) 20 n) a)], _)
  rw [show lo (gN W (a + 1) 20 n) a = lo (gN (gN W (a + 1) 20 n) (a + 2) 20 n) a from (by simp only [SeW, gN_lo, ite_true, ite_false] <;> (repeat' split) <;> first | rfl | omega), show lo (gN W (a + 1) 20 n) 3 = lo (gN (gN W (a + 1) 20 n) (a + 2) 20 n) 3 from (by simp only [SeW, gN_lo, ite_true, ite_false] <;> (repeat' split) <;> first | rfl | omega)]
  refine V42_55 hd W2 R2 T2 G2 ⟨h9, (by simp only [SeW, gN_K, ite_true, ite_false] <;> (repeat' split) <;> first | assumption | rfl | omega), by rw [NZ, gN_K_e]; decide, (by simp only [SeW, gN_K, ite_true, ite_false] <;> (repeat' split) <;> first | assumption | rfl | omega), ?_⟩
  rw [e2a, a0]
  refine w_newa W2 T2'.1 (by decide) (cc3 c42_63) (a + 3) ⟨by omega, by omega⟩ kb3 (fun V3 e3 _ => ?_)
  rw [Int.toNat_natCast] at e3
  subst e3
  rw [show lo (gN (gN W (a + 1) 20 n) (a + 2) 20 n) a = lo (gN (gN (gN W (a + 1) 20 n) (a + 2) 20 n) (a + 3) 20 n) a from (by simp only [SeW, gN_lo, ite_true, ite_false] <;> (repeat' split) <;> first | rfl | omega), show lo (gN (gN W (a + 1) 20 n) (a + 2) 20 n) 3 = lo (gN (gN (gN W (a + 1) 20 n) (a + 2) 20 n) (a + 3) 20 n) 3 from (by simp only [SeW, gN_lo, ite_true, ite_false] <;> (repeat' split) <;> first | rfl | omega)]
  refine V42_65 hd W3 R3 T3 G3 ⟨h9, (by simp only [SeW, gN_K, ite_true, ite_false] <;> (repeat' split) <;> first | assumption | rfl | omega), by rw [NZ, gN_K_e]; decide, (by simp only [SeW, gN_K, ite_true, ite_false] <;> (repeat' split) <;> first | assumption | rfl | omega), ?_⟩
  rw [z3, a1]
  refine w_newa W3 T3'.1 (by decide) (cc3 c42_73) (a + 4) ⟨by omega, by omega⟩ kb4 (fun V4 e4 _ => ?_)
  rw [Int.toNat_natCast] at e4
  have e4' : V4 = SeW W a n p := e4
  subst e4'
  rw [hE, show lo (gN (gN (gN W (a + 1) 20 n) (a + 2) 20 n) (a + 3) 20 n) a = lo (SeW W a n p) a from (by simp only [SeW, gN_lo, ite_true, ite_false] <;> (repeat' split) <;> first | rfl | omega), show lo (gN (gN (gN W (a + 1) 20 n) (a + 2) 20 n) (a + 3) 20 n) 3 = lo (SeW W a n p) 3 from (by simp only [SeW, gN_lo, ite_true, ite_false] <;> (repeat' split) <;> first | rfl | omega)]
  refine V42_75 hd W4 R4 T4 G4 ⟨h9, (by simp only [SeW, gN_K, ite_true, ite_false] <;> (repeat' split) <;> first | assumption | rfl | omega), by rw [NZ, gN_K_e]; decide, ?_⟩
  exact L42a hd W4 T4' G4 (A0 := E) ⟨by rw [z4, a0], by rw [z4, a1]⟩ hN hpE (fun A' hR' hO' hF' hS' hC' => ⟨A', rfl, rfl, W4, hR', T4', G4, fun c q => (hF' c (by omega) (by omega)).trans (zF c q), hO', ⟨by rw [hF' a (by omega) (by omega), z4, a0], by rw [hF' a (by omega) (by omega), z4, a1], by rw [hF' a (by omega) (by omega), z4, a2]⟩, fun k q1 q2 => by rw [hF' (a + 1) (by omega) (by omega), hF' (a + 2) (by omega) (by omega)]; exact z41 k q1 q2, hS', hC'⟩) n 0 E 0 (by omega) R4 hO (fun _ _ _ => rfl) rfl (fun x q1 q2 => by omega) (fun k q => by omega)
