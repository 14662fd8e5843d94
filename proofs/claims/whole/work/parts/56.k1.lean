theorem rg_min {x y : Int} (h : Rg x ∧ Rg y) : Rg (min x y) := by obtain ⟨hx, hy⟩ := h; constructor <;> omega
theorem rg_max {x y : Int} (h : Rg x ∧ Rg y) : Rg (max x y) := by obtain ⟨hx, hy⟩ := h; constructor <;> omega
theorem rg_ite {c : Prop} [Decidable c] {x y : Int} (hx : Rg x) (hy : Rg y) : Rg (if c then x else y) := by split <;> assumption
theorem ixor_s {x y : Int} (hx : Rg x) (hy : Rg y) : 0 ≤ ixor x y ↔ (x < 0 ↔ y < 0) := by
  have h : (iz x ^^^ iz y).toBitVec.msb = ((iz x).toBitVec.msb ^^ (iz y).toBitVec.msb) := by rw [Int32.toBitVec_xor, BitVec.msb_xor]
  rw [BitVec.msb_eq_toInt, BitVec.msb_eq_toInt, BitVec.msb_eq_toInt] at h
  have e1 : (iz x).toBitVec.toInt = x := iz_t hx
  have e2 : (iz y).toBitVec.toInt = y := iz_t hy
  have e3 : (iz x ^^^ iz y).toBitVec.toInt = ixor x y := rfl
  rw [e1, e2, e3] at h
  by_cases a : x < 0 <;> by_cases b : y < 0 <;> simp [a, b] at h ⊢ <;> omega
theorem mlb {a b m n : Int} (h : (0 ≤ a ∧ a ≤ m) ∧ (0 ≤ b ∧ b ≤ n)) : 0 ≤ a * b ∧ a * b ≤ m * n := ⟨Int.mul_nonneg h.1.1 h.2.1, Int.mul_le_mul h.1.2 h.2.2 h.2.1 (by omega)⟩
theorem V36_0 {d : Nat} (hd : 0 ≤ d) {Q : Option Value → xM → Prop} {σ : xM} {x0 x1 : Int} (rr : Rg x0 ∧ Rg x1) (h : (((x1 < x0) → Q (some (.int (iz x1))) (σ)) ∧ (¬ (x1 < x0) → Q (some (.int (iz x0))) (σ)))) : wpE (xT 36) (xev xT d) Q (0, [(0, .int (iz x0)), (1, .int (iz x1))], [], σ) := by
  refine p_ild (cc3 c36_0) rfl ?_
  refine p_ild (cc3 c36_1) rfl ?_
  refine i_icmp (c' := x1 < x0) (cc3 c36_2) (iz_lt rr.2 rr.1) (fun c => ?_) (fun c => ?_)
  · have h := h.1 c
    refine p_ild (cc3 c36_9) rfl ?_
    refine p_lc (ls' := []) c36_10 rfl rfl ?_
    exact p_ri (cct c36_10 rfl) trivial h
  · have h := h.2 c
    refine p_ild (cc3 c36_5) rfl ?_
    refine p_goto (cc3 c36_6) ?_
    refine p_lc (ls' := []) c36_10 rfl rfl ?_
    exact p_ri (cct c36_10 rfl) trivial h
theorem S36 {d : Nat} (hd : 1 ≤ d) {σ : xM} {x0 x1 : Int} (rr : Rg x0 ∧ Rg x1) : xev xT d 36 [.int (iz x0), .int (iz x1)] (σ) (some (.int (iz (min x0 x1)))) (σ) := by
  refine xev_i (D := 0) hd (Nat.le_of_ble_eq_true rfl) (fun d hd => V36_0 hd rr ?_)
  repeat' (first | refine And.intro ?_ ?_ | intro _)
  all_goals (first | assumption | rfl | omega | (refine congrArg (fun z => some (Value.int (iz z))) ?_; first | omega | exact (bI_f (by omega)).symm | exact (bI_t (by omega)).symm | exact bI_i (by omega)))
theorem V61_0 {d : Nat} (hd : 0 ≤ d) {Q : Option Value → xM → Prop} {σ : xM} {x0 x1 : Int} (rr : Rg x0 ∧ Rg x1) (h : (((x0 < x1) → Q (some (.int (iz x1))) (σ)) ∧ (¬ (x0 < x1) → Q (some (.int (iz x0))) (σ)))) : wpE (xT 61) (xev xT d) Q (0, [(0, .int (iz x0)), (1, .int (iz x1))], [], σ) := by
  refine p_ild (cc3 c61_0) rfl ?_
  refine p_ild (cc3 c61_1) rfl ?_
  refine i_icmp (c' := x0 < x1) (cc3 c61_2) (iz_lt rr.1 rr.2) (fun c => ?_) (fun c => ?_)
  · have h := h.1 c
    refine p_ild (cc3 c61_9) rfl ?_
    refine p_lc (ls' := []) c61_10 rfl rfl ?_
    exact p_ri (cct c61_10 rfl) trivial h
  · have h := h.2 c
    refine p_ild (cc3 c61_5) rfl ?_
    refine p_goto (cc3 c61_6) ?_
    refine p_lc (ls' := []) c61_10 rfl rfl ?_
    exact p_ri (cct c61_10 rfl) trivial h
theorem S61 {d : Nat} (hd : 1 ≤ d) {σ : xM} {x0 x1 : Int} (rr : Rg x0 ∧ Rg x1) : xev xT d 61 [.int (iz x0), .int (iz x1)] (σ) (some (.int (iz (max x0 x1)))) (σ) := by
  refine xev_i (D := 0) hd (Nat.le_of_ble_eq_true rfl) (fun d hd => V61_0 hd rr ?_)
  repeat' (first | refine And.intro ?_ ?_ | intro _)
  all_goals (first | assumption | rfl | omega | (refine congrArg (fun z => some (Value.int (iz z))) ?_; first | omega | exact (bI_f (by omega)).symm | exact (bI_t (by omega)).symm | exact bI_i (by omega)))
/-- floorMod -/
theorem fm_e {x y : Int} (h : 0 < y) : (0 ≤ x ∨ x.tmod y = 0 → x.tmod y = x % y) ∧ (x < 0 → ¬ x.tmod y = 0 → x.tmod y + y = x % y) := by
  have hd := Int.emod_add_mul_ediv x y
  have ht := Int.tmod_add_mul_tdiv x y
  have m1 := Int.emod_nonneg x (show y ≠ 0 by omega)
  have m2 := Int.emod_lt_of_pos x h
  refine ⟨fun q => ?_, fun q1 q2 => ?_⟩
  · rcases q with q | q
    · exact tmod_pos q
    · rw [q]
      have : x % y = 0 := Int.emod_eq_zero_of_dvd (Int.dvd_of_tmod_eq_zero q)
      omega
  · have e : x.tmod y = -((-x) % y) := by rw [← tmod_pos (show 0 ≤ -x by omega), Int.neg_tmod, Int.neg_neg]
    have h2 := Int.emod_nonneg (-x) (show y ≠ 0 by omega)
    have h3 := Int.emod_lt_of_pos (-x) h
    generalize x.tmod y = a at *
    generalize x % y = b at *
    generalize x.tdiv y = c at *
    generalize x / y = d at *
    have h8 : b - a = y * (c - d) := by rw [Int.mul_sub]; omega
    have a1 : y * (c - d) < y * 2 := by omega
    have a2 : y * 0 < y * (c - d) := by omega
    have b1 := Int.lt_of_mul_lt_mul_left a1 (by omega)
    have b2 := Int.lt_of_mul_lt_mul_left a2 (by omega)
    have b3 : c - d = 1 := by omega
    rw [b3] at h8; omega
theorem V72_0 {d : Nat} (hd : 0 ≤ d) {Q : Option Value → xM → Prop} {σ : xM} {x0 x1 : Int} (rr : Rg x0 ∧ Rg x1) (h : (0 < x1 ∧ x1 ≤ 2147483647) ∧ (((0 ≤ (ixor x0 x1)) → Q (some (.int (iz (x0.tmod x1)))) (σ)) ∧ (¬ (0 ≤ (ixor x0 x1)) → ((((x0.tmod x1) = 0) → Q (some (.int (iz (x0.tmod x1)))) (σ)) ∧ (¬ ((x0.tmod x1) = 0) → (Rg ((x0.tmod x1) + x1)) ∧ Q (some (.int (iz ((x0.tmod x1) + x1)))) (σ)))))) : wpE (xT 72) (xev xT d) Q (0, [(0, .int (iz x0)), (1, .int (iz x1))], [], σ) := by
  refine p_ild (cc3 c72_0) rfl ?_
  refine p_ild (cc3 c72_1) rfl ?_
  obtain ⟨g1, h⟩ := h
  refine i_rem (cc3 c72_2) rr.1 g1 ?_
  refine p_ist (ls' := [(2, .int (iz (x0.tmod x1))), (0, .int (iz x0)), (1, .int (iz x1))]) (cc3 c72_3) (by decide) rfl ?_
  refine p_ild (cc3 c72_4) rfl ?_
  refine p_ild (cc3 c72_5) rfl ?_
  refine i_op (z := ixor x0 x1) (cc3 c72_6) (iz_of _).symm ?_
  refine i_if (c' := 0 ≤ (ixor x0 x1)) (cc3 c72_7) (c_ge0 rg_ixor) (fun c => ?_) (fun c => ?_)
  · have h := h.1 c
    refine p_lc (ls' := [(2, .int (iz (x0.tmod x1)))]) c72_18 rfl rfl ?_
    refine p_ild (cct c72_18 rfl) rfl ?_
    exact p_ri (cc3 c72_19) trivial h
  · have h := h.2 c
    refine p_ild (cc3 c72_10) rfl ?_
    refine i_if (c' := (x0.tmod x1) = 0) (cc3 c72_11) (c_eq0 (rg_tmod rr.1 g1.1)) (fun c => ?_) (fun c => ?_)
    · have h := h.1 c
      refine p_lc (ls' := [(2, .int (iz (x0.tmod x1)))]) c72_18 rfl rfl ?_
      refine p_ild (cct c72_18 rfl) rfl ?_
      exact p_ri (cc3 c72_19) trivial h
    · have h := h.2 c
      refine p_ild (cc3 c72_14) rfl ?_
      refine p_ild (cc3 c72_15) rfl ?_
      obtain ⟨g2, h⟩ := h
      refine (fun _ : Rg ((x0.tmod x1) + x1) => i_add (cc3 c72_16) ?_) g2
      exact p_ri (cc3 c72_17) trivial h

theorem rg_fm {x y : Int} (h : 0 < y ∧ y ≤ 1000000000) : Rg (x % y) := by
  have m1 := Int.emod_nonneg x (show y ≠ 0 by omega)
  have m2 := Int.emod_lt_of_pos x h.1
  constructor <;> omega
theorem S72 {d : Nat} (hd : 1 ≤ d) {σ : xM} {x0 x1 : Int} (rr : Rg x0 ∧ Rg x1) (hp : (0 < x1 ∧ x1 ≤ 1000000000)) : xev xT d 72 [.int (iz x0), .int (iz x1)] (σ) (some (.int (iz (x0 % x1)))) (σ) := by
  refine xev_i (D := 0) hd (Nat.le_of_ble_eq_true rfl) (fun d hd => V72_0 hd rr ?_)

  have hs := ixor_s rr.1 rr.2
  have hf := fm_e (x := x0) (y := x1) hp.1
  have e := fun (z : Int) (hz : z = x0 % x1) => (⟨congrArg (fun z => some (Value.int (iz z))) hz, rfl⟩ : some (Value.int (iz z)) = some (.int (iz (x0 % x1))) ∧ σ = σ)
  have m1 := Int.emod_nonneg x0 (show x1 ≠ 0 by omega)
  have m2 := Int.emod_lt_of_pos x0 hp.1
  refine ⟨by omega, fun c => e _ (hf.1 (Or.inl ?_)), fun c => ⟨fun c2 => e _ (hf.1 (Or.inr c2)), fun c2 => ?_⟩⟩
  · have := hs.mp c; omega
  · have c3 : x0 < 0 := by
      apply Classical.byContradiction; intro q; exact c (hs.mpr (by omega))
    have := hf.2 c3 c2
    exact ⟨⟨by omega, by omega⟩, e _ this⟩
theorem V19_0 {d : Nat} (hd : 0 ≤ d) {Q : Option Value → xM → Prop} {σ : xM} {x0 : Int} (rr : Rg x0) (h : (((x0 = 32) → Q (some (.int (iz 1))) (σ)) ∧ (¬ (x0 = 32) → (((x0 = 10) → Q (some (.int (iz 1))) (σ)) ∧ (¬ (x0 = 10) → Q (some (.int (iz 0))) (σ)))))) : wpE (xT 19) (xev xT d) Q (0, [(0, .int (iz x0))], [], σ) := by
  refine p_ild (cc3 c19_0) rfl ?_
  refine i_push (n := 32) (cc3 c19_1) zl_32 ?_
  refine i_icmp (c' := x0 = 32) (cc3 c19_3) (iz_inj rr (by decide : Rg (32 : Int))) (fun c => ?_) (fun c => ?_)
  · have h := h.1 c
    refine p_lc (ls' := []) c19_12 rfl rfl ?_
    refine i_push (n := 1) (cct c19_12 rfl) zl_1 ?_
    refine p_goto (cc3 c19_13) ?_
    exact i_ri (cct c19_17 rfl) (by decide) h
  · have h := h.2 c
    refine p_ild (cc3 c19_6) rfl ?_
    refine i_push (n := 10) (cc3 c19_7) zl_10 ?_
    refine i_icmp (c' := x0 = 10) (cc3 c19_9) (iz_inj rr (by decide : Rg (10 : Int))) (fun c => ?_) (fun c => ?_)
    · have h := h.1 c
      refine p_lc (ls' := []) c19_12 rfl rfl ?_
      refine i_push (n := 1) (cct c19_12 rfl) zl_1 ?_
      refine p_goto (cc3 c19_13) ?_
      exact i_ri (cct c19_17 rfl) (by decide) h
    · have h := h.2 c
      refine i_push (n := 0) (cc3 c19_16) zl_0 ?_
      refine p_lc (ls' := []) c19_17 rfl rfl ?_
      exact i_ri (cct c19_17 rfl) (by decide) h
theorem S19 {d : Nat} (hd : 1 ≤ d) {σ : xM} {x0 : Int} (rr : Rg x0) : xev xT d 19 [.int (iz x0)] (σ) (some (.int (iz (bI (x0 = 32 ∨ x0 = 10))))) (σ) := by
  refine xev_i (D := 0) hd (Nat.le_of_ble_eq_true rfl) (fun d hd => V19_0 hd rr ?_)
  repeat' (first | refine And.intro ?_ ?_ | intro _)
  all_goals (first | assumption | rfl | omega | (refine congrArg (fun z => some (Value.int (iz z))) ?_; first | omega | exact (bI_f (by omega)).symm | exact (bI_t (by omega)).symm | exact bI_i (by omega)) | (refine congrArg (fun z => some (Value.int (iz z))) ?_; first | exact (bI_t (by subst_vars; decide)).symm | (refine (bI_f ?_).symm; unfold isSg; omega)))
theorem V20_0 {d : Nat} (hd : 0 ≤ d) {Q : Option Value → xM → Prop} {σ : xM} {x0 : Int} (rr : Rg x0) (h : (((x0 < 97) → Q (some (.int (iz 0))) (σ)) ∧ (¬ (x0 < 97) → (((122 < x0) → Q (some (.int (iz 0))) (σ)) ∧ (¬ (122 < x0) → Q (some (.int (iz 1))) (σ)))))) : wpE (xT 20) (xev xT d) Q (0, [(0, .int (iz x0))], [], σ) := by
  refine p_ild (cc3 c20_0) rfl ?_
  refine i_push (n := 97) (cc3 c20_1) zl_97 ?_
  refine i_icmp (c' := x0 < 97) (cc3 c20_3) (iz_lt rr (by decide : Rg (97 : Int))) (fun c => ?_) (fun c => ?_)
  · have h := h.1 c
    refine p_lc (ls' := []) c20_16 rfl rfl ?_
    refine i_push (n := 0) (cct c20_16 rfl) zl_0 ?_
    exact i_ri (cct c20_17 rfl) (by decide) h
  · have h := h.2 c
    refine p_ild (cc3 c20_6) rfl ?_
    refine i_push (n := 122) (cc3 c20_7) zl_122 ?_
    refine i_icmp (c' := 122 < x0) (cc3 c20_9) (iz_lt (by decide : Rg (122 : Int)) rr) (fun c => ?_) (fun c => ?_)
    · have h := h.1 c
      refine p_lc (ls' := []) c20_16 rfl rfl ?_
      refine i_push (n := 0) (cct c20_16 rfl) zl_0 ?_
      exact i_ri (cct c20_17 rfl) (by decide) h
    · have h := h.2 c
      refine i_push (n := 1) (cc3 c20_12) zl_1 ?_
      refine p_goto (cc3 c20_13) ?_
      refine p_lc (ls' := []) c20_17 rfl rfl ?_
      exact i_ri (cct c20_17 rfl) (by decide) h
theorem S20 {d : Nat} (hd : 1 ≤ d) {σ : xM} {x0 : Int} (rr : Rg x0) : xev xT d 20 [.int (iz x0)] (σ) (some (.int (iz (bI (97 ≤ x0 ∧ x0 ≤ 122))))) (σ) := by
  refine xev_i (D := 0) hd (Nat.le_of_ble_eq_true rfl) (fun d hd => V20_0 hd rr ?_)
  repeat' (first | refine And.intro ?_ ?_ | intro _)
  all_goals (first | assumption | rfl | omega | (refine congrArg (fun z => some (Value.int (iz z))) ?_; first | omega | exact (bI_f (by omega)).symm | exact (bI_t (by omega)).symm | exact bI_i (by omega)) | (refine congrArg (fun z => some (Value.int (iz z))) ?_; first | exact (bI_t (by subst_vars; decide)).symm | (refine (bI_f ?_).symm; unfold isSg; omega)))
theorem V24_0 {d : Nat} (hd : 0 ≤ d) {Q : Option Value → xM → Prop} {σ : xM} {x0 : Int} (rr : Rg x0) (h : (((x0 < 48) → Q (some (.int (iz 0))) (σ)) ∧ (¬ (x0 < 48) → (((57 < x0) → Q (some (.int (iz 0))) (σ)) ∧ (¬ (57 < x0) → Q (some (.int (iz 1))) (σ)))))) : wpE (xT 24) (xev xT d) Q (0, [(0, .int (iz x0))], [], σ) := by
  refine p_ild (cc3 c24_0) rfl ?_
  refine i_push (n := 48) (cc3 c24_1) zl_48 ?_
  refine i_icmp (c' := x0 < 48) (cc3 c24_3) (iz_lt rr (by decide : Rg (48 : Int))) (fun c => ?_) (fun c => ?_)
  · have h := h.1 c
    refine p_lc (ls' := []) c24_16 rfl rfl ?_
    refine i_push (n := 0) (cct c24_16 rfl) zl_0 ?_
    exact i_ri (cct c24_17 rfl) (by decide) h
  · have h := h.2 c
    refine p_ild (cc3 c24_6) rfl ?_
    refine i_push (n := 57) (cc3 c24_7) zl_57 ?_
    refine i_icmp (c' := 57 < x0) (cc3 c24_9) (iz_lt (by decide : Rg (57 : Int)) rr) (fun c => ?_) (fun c => ?_)
    · have h := h.1 c
      refine p_lc (ls' := []) c24_16 rfl rfl ?_
      refine i_push (n := 0) (cct c24_16 rfl) zl_0 ?_
      exact i_ri (cct c24_17 rfl) (by decide) h
    · have h := h.2 c
      refine i_push (n := 1) (cc3 c24_12) zl_1 ?_
      refine p_goto (cc3 c24_13) ?_
      refine p_lc (ls' := []) c24_17 rfl rfl ?_
      exact i_ri (cct c24_17 rfl) (by decide) h
theorem S24 {d : Nat} (hd : 1 ≤ d) {σ : xM} {x0 : Int} (rr : Rg x0) : xev xT d 24 [.int (iz x0)] (σ) (some (.int (iz (bI (48 ≤ x0 ∧ x0 ≤ 57))))) (σ) := by
  refine xev_i (D := 0) hd (Nat.le_of_ble_eq_true rfl) (fun d hd => V24_0 hd rr ?_)
  repeat' (first | refine And.intro ?_ ?_ | intro _)
  all_goals (first | assumption | rfl | omega | (refine congrArg (fun z => some (Value.int (iz z))) ?_; first | omega | exact (bI_f (by omega)).symm | exact (bI_t (by omega)).symm | exact bI_i (by omega)) | (refine congrArg (fun z => some (Value.int (iz z))) ?_; first | exact (bI_t (by subst_vars; decide)).symm | (refine (bI_f ?_).symm; unfold isSg; omega)))
theorem V26_0 {d : Nat} (hd : 0 ≤ d) {Q : Option Value → xM → Prop} {σ : xM} {x0 : Int} (rr : Rg x0) (h : (((x0 = 40) → Q (some (.int (iz 1))) (σ)) ∧ (¬ (x0 = 40) → ((x0 = 41) → Q (some (.int (iz 1))) (σ)) ∧ (¬ (x0 = 41) → ((x0 = 42) → Q (some (.int (iz 1))) (σ)) ∧ (¬ (x0 = 42) → ((x0 = 43) → Q (some (.int (iz 1))) (σ)) ∧ (¬ (x0 = 43) → ((x0 = 44) → Q (some (.int (iz 0))) (σ)) ∧ (¬ (x0 = 44) → ((x0 = 45) → Q (some (.int (iz 1))) (σ)) ∧ (¬ (x0 = 45) → ((x0 = 46) → Q (some (.int (iz 0))) (σ)) ∧ (¬ (x0 = 46) → ((x0 = 47) → Q (some (.int (iz 0))) (σ)) ∧ (¬ (x0 = 47) → ((x0 = 48) → Q (some (.int (iz 0))) (σ)) ∧ (¬ (x0 = 48) → ((x0 = 49) → Q (some (.int (iz 0))) (σ)) ∧ (¬ (x0 = 49) → ((x0 = 50) → Q (some (.int (iz 0))) (σ)) ∧ (¬ (x0 = 50) → ((x0 = 51) → Q (some (.int (iz 0))) (σ)) ∧ (¬ (x0 = 51) → ((x0 = 52) → Q (some (.int (iz 0))) (σ)) ∧ (¬ (x0 = 52) → ((x0 = 53) → Q (some (.int (iz 0))) (σ)) ∧ (¬ (x0 = 53) → ((x0 = 54) → Q (some (.int (iz 0))) (σ)) ∧ (¬ (x0 = 54) → ((x0 = 55) → Q (some (.int (iz 0))) (σ)) ∧ (¬ (x0 = 55) → ((x0 = 56) → Q (some (.int (iz 0))) (σ)) ∧ (¬ (x0 = 56) → ((x0 = 57) → Q (some (.int (iz 0))) (σ)) ∧ (¬ (x0 = 57) → ((x0 = 58) → Q (some (.int (iz 0))) (σ)) ∧ (¬ (x0 = 58) → ((x0 = 59) → Q (some (.int (iz 1))) (σ)) ∧ (¬ (x0 = 59) → ((x0 = 60) → Q (some (.int (iz 1))) (σ)) ∧ (¬ (x0 = 60) → ((x0 = 61) → Q (some (.int (iz 1))) (σ)) ∧ (¬ (x0 = 61) → Q (some (.int (iz 0))) (σ))))))))))))))))))))))))) : wpE (xT 26) (xev xT d) Q (0, [(0, .int (iz x0))], [], σ) := by
  refine p_ild (cc3 c26_0) rfl ?_
  refine (fun _ : Rg x0 => p_sw (cc3 c26_1) ?_) rr
  refine sw_c (n := 40) rr zl_40 (by decide) (fun c => ?_) (fun c => ?_)
  · have h := h.1 c
    refine i_push (n := 1) (cc3 c26_104) zl_1 ?_
    exact i_ri (cc3 c26_105) (by decide) h
  · have h := h.2 c
    refine sw_c (n := 41) rr zl_41 (by decide) (fun c => ?_) (fun c => ?_)
    · have h := h.1 c
      refine i_push (n := 1) (cc3 c26_104) zl_1 ?_
      exact i_ri (cc3 c26_105) (by decide) h
    · have h := h.2 c
      refine sw_c (n := 42) rr zl_42 (by decide) (fun c => ?_) (fun c => ?_)
      · have h := h.1 c
        refine i_push (n := 1) (cc3 c26_104) zl_1 ?_
        exact i_ri (cc3 c26_105) (by decide) h
      · have h := h.2 c
        refine sw_c (n := 43) rr zl_43 (by decide) (fun c => ?_) (fun c => ?_)
        · have h := h.1 c
          refine i_push (n := 1) (cc3 c26_104) zl_1 ?_
          exact i_ri (cc3 c26_105) (by decide) h
        · have h := h.2 c
          refine sw_c (n := 44) rr zl_44 (by decide) (fun c => ?_) (fun c => ?_)
          · have h := h.1 c
            refine i_push (n := 0) (cc3 c26_106) zl_0 ?_
            exact i_ri (cc3 c26_107) (by decide) h
          · have h := h.2 c
            refine sw_c (n := 45) rr zl_45 (by decide) (fun c => ?_) (fun c => ?_)
            · have h := h.1 c
              refine i_push (n := 1) (cc3 c26_104) zl_1 ?_
              exact i_ri (cc3 c26_105) (by decide) h
            · have h := h.2 c
              refine sw_c (n := 46) rr zl_46 (by decide) (fun c => ?_) (fun c => ?_)
              · have h := h.1 c
                refine i_push (n := 0) (cc3 c26_106) zl_0 ?_
                exact i_ri (cc3 c26_107) (by decide) h
              · have h := h.2 c
                refine sw_c (n := 47) rr zl_47 (by decide) (fun c => ?_) (fun c => ?_)
                · have h := h.1 c
                  refine i_push (n := 0) (cc3 c26_106) zl_0 ?_
                  exact i_ri (cc3 c26_107) (by decide) h
                · have h := h.2 c
                  refine sw_c (n := 48) rr zl_48 (by decide) (fun c => ?_) (fun c => ?_)
                  · have h := h.1 c
                    refine i_push (n := 0) (cc3 c26_106) zl_0 ?_
                    exact i_ri (cc3 c26_107) (by decide) h
                  · have h := h.2 c
                    refine sw_c (n := 49) rr zl_49 (by decide) (fun c => ?_) (fun c => ?_)
                    · have h := h.1 c
                      refine i_push (n := 0) (cc3 c26_106) zl_0 ?_
                      exact i_ri (cc3 c26_107) (by decide) h
                    · have h := h.2 c
                      refine sw_c (n := 50) rr zl_50 (by decide) (fun c => ?_) (fun c => ?_)
                      · have h := h.1 c
                        refine i_push (n := 0) (cc3 c26_106) zl_0 ?_
                        exact i_ri (cc3 c26_107) (by decide) h
                      · have h := h.2 c
                        refine sw_c (n := 51) rr zl_51 (by decide) (fun c => ?_) (fun c => ?_)
                        · have h := h.1 c
                          refine i_push (n := 0) (cc3 c26_106) zl_0 ?_
                          exact i_ri (cc3 c26_107) (by decide) h
                        · have h := h.2 c
                          refine sw_c (n := 52) rr zl_52 (by decide) (fun c => ?_) (fun c => ?_)
                          · have h := h.1 c
                            refine i_push (n := 0) (cc3 c26_106) zl_0 ?_
                            exact i_ri (cc3 c26_107) (by decide) h
                          · have h := h.2 c
                            refine sw_c (n := 53) rr zl_53 (by decide) (fun c => ?_) (fun c => ?_)
                            · have h := h.1 c
                              refine i_push (n := 0) (cc3 c26_106) zl_0 ?_
                              exact i_ri (cc3 c26_107) (by decide) h
                            · have h := h.2 c
                              refine sw_c (n := 54) rr zl_54 (by decide) (fun c => ?_) (fun c => ?_)
                              · have h := h.1 c
                                refine i_push (n := 0) (cc3 c26_106) zl_0 ?_
                                exact i_ri (cc3 c26_107) (by decide) h
                              · have h := h.2 c
                                refine sw_c (n := 55) rr zl_55 (by decide) (fun c => ?_) (fun c => ?_)
                                · have h := h.1 c
                                  refine i_push (n := 0) (cc3 c26_106) zl_0 ?_
                                  exact i_ri (cc3 c26_107) (by decide) h
                                · have h := h.2 c
                                  refine sw_c (n := 56) rr zl_56 (by decide) (fun c => ?_) (fun c => ?_)
                                  · have h := h.1 c
                                    refine i_push (n := 0) (cc3 c26_106) zl_0 ?_
                                    exact i_ri (cc3 c26_107) (by decide) h
                                  · have h := h.2 c
                                    refine sw_c (n := 57) rr zl_57 (by decide) (fun c => ?_) (fun c => ?_)
                                    · have h := h.1 c
                                      refine i_push (n := 0) (cc3 c26_106) zl_0 ?_
                                      exact i_ri (cc3 c26_107) (by decide) h
                                    · have h := h.2 c
                                      refine sw_c (n := 58) rr zl_58 (by decide) (fun c => ?_) (fun c => ?_)
                                      · have h := h.1 c
                                        refine i_push (n := 0) (cc3 c26_106) zl_0 ?_
                                        exact i_ri (cc3 c26_107) (by decide) h
                                      · have h := h.2 c
                                        refine sw_c (n := 59) rr zl_59 (by decide) (fun c => ?_) (fun c => ?_)
                                        · have h := h.1 c
                                          refine i_push (n := 1) (cc3 c26_104) zl_1 ?_
                                          exact i_ri (cc3 c26_105) (by decide) h
                                        · have h := h.2 c
                                          refine sw_c (n := 60) rr zl_60 (by decide) (fun c => ?_) (fun c => ?_)
                                          · have h := h.1 c
                                            refine i_push (n := 1) (cc3 c26_104) zl_1 ?_
                                            exact i_ri (cc3 c26_105) (by decide) h
                                          · have h := h.2 c
                                            refine sw_c (n := 61) rr zl_61 (by decide) (fun c => ?_) (fun c => ?_)
                                            · have h := h.1 c
                                              refine i_push (n := 1) (cc3 c26_104) zl_1 ?_
                                              exact i_ri (cc3 c26_105) (by decide) h
                                            · have h := h.2 c
                                              refine sw_d ?_
                                              refine i_push (n := 0) (cc3 c26_106) zl_0 ?_
                                              exact i_ri (cc3 c26_107) (by decide) h
theorem S26 {d : Nat} (hd : 1 ≤ d) {σ : xM} {x0 : Int} (rr : Rg x0) : xev xT d 26 [.int (iz x0)] (σ) (some (.int (iz (bI (isSg x0))))) (σ) := by
  refine xev_i (D := 0) hd (Nat.le_of_ble_eq_true rfl) (fun d hd => V26_0 hd rr ?_)
  repeat' (first | refine And.intro ?_ ?_ | intro _)
  all_goals (first | assumption | rfl | omega | (refine congrArg (fun z => some (Value.int (iz z))) ?_; first | omega | exact (bI_f (by omega)).symm | exact (bI_t (by omega)).symm | exact bI_i (by omega)) | (refine congrArg (fun z => some (Value.int (iz z))) ?_; first | exact (bI_t (by subst_vars; decide)).symm | (refine (bI_f ?_).symm; unfold isSg; omega)))
theorem V33_0 {d : Nat} (hd : 0 ≤ d) {Q : Option Value → xM → Prop} {σ : xM} {x0 : Int} (rr : Rg x0) (h : (((x0 = 42) → Q (some (.int (iz 4))) (σ)) ∧ (¬ (x0 = 42) → ((x0 = 43) → Q (some (.int (iz 3))) (σ)) ∧ (¬ (x0 = 43) → ((x0 = 45) → Q (some (.int (iz 3))) (σ)) ∧ (¬ (x0 = 45) → ((x0 = 60) → Q (some (.int (iz 2))) (σ)) ∧ (¬ (x0 = 60) → ((x0 = 61) → Q (some (.int (iz 2))) (σ)) ∧ (¬ (x0 = 61) → ((x0 = 202) → Q (some (.int (iz 0))) (σ)) ∧ (¬ (x0 = 202) → ((x0 = 203) → Q (some (.int (iz 1))) (σ)) ∧ (¬ (x0 = 203) → Q (some (.int (iz (-1)))) (σ)))))))))) : wpE (xT 33) (xev xT d) Q (0, [(0, .int (iz x0))], [], σ) := by
  refine p_ild (cc3 c33_0) rfl ?_
  refine (fun _ : Rg x0 => p_sw (cc3 c33_1) ?_) rr
  refine sw_c (n := 42) rr zl_42 (by decide) (fun c => ?_) (fun c => ?_)
  · have h := h.1 c
    refine i_push (n := 4) (cc3 c33_76) zl_4 ?_
    exact p_ri (cc3 c33_77) trivial h
  · have h := h.2 c
    refine sw_c (n := 43) rr zl_43 (by decide) (fun c => ?_) (fun c => ?_)
    · have h := h.1 c
      refine i_push (n := 3) (cc3 c33_74) zl_3 ?_
      exact p_ri (cc3 c33_75) trivial h
    · have h := h.2 c
      refine sw_c (n := 45) rr zl_45 (by decide) (fun c => ?_) (fun c => ?_)
      · have h := h.1 c
        refine i_push (n := 3) (cc3 c33_74) zl_3 ?_
        exact p_ri (cc3 c33_75) trivial h
      · have h := h.2 c
        refine sw_c (n := 60) rr zl_60 (by decide) (fun c => ?_) (fun c => ?_)
        · have h := h.1 c
          refine i_push (n := 2) (cc3 c33_72) zl_2 ?_
          exact p_ri (cc3 c33_73) trivial h
        · have h := h.2 c
          refine sw_c (n := 61) rr zl_61 (by decide) (fun c => ?_) (fun c => ?_)
          · have h := h.1 c
            refine i_push (n := 2) (cc3 c33_72) zl_2 ?_
            exact p_ri (cc3 c33_73) trivial h
          · have h := h.2 c
            refine sw_c (n := 202) rr zl_202 (by decide) (fun c => ?_) (fun c => ?_)
            · have h := h.1 c
              refine i_push (n := 0) (cc3 c33_68) zl_0 ?_
              exact p_ri (cc3 c33_69) trivial h
            · have h := h.2 c
              refine sw_c (n := 203) rr zl_203 (by decide) (fun c => ?_) (fun c => ?_)
              · have h := h.1 c
                refine i_push (n := 1) (cc3 c33_70) zl_1 ?_
                exact p_ri (cc3 c33_71) trivial h
              · have h := h.2 c
                refine sw_d ?_
                refine i_push (n := (-1)) (cc3 c33_78) zl_m1 ?_
                exact p_ri (cc3 c33_79) trivial h
theorem rg_lv {c : Int} : Rg (lvC c) := by have := lv_r (c := c); constructor <;> omega
theorem S33 {d : Nat} (hd : 1 ≤ d) {σ : xM} {x0 : Int} (rr : Rg x0) : xev xT d 33 [.int (iz x0)] (σ) (some (.int (iz (lvC x0)))) (σ) := by
  refine xev_i (D := 0) hd (Nat.le_of_ble_eq_true rfl) (fun d hd => V33_0 hd rr ?_)
  repeat' (first | refine And.intro ?_ ?_ | intro _)
  all_goals first | rfl | (refine congrArg (fun z => some (Value.int (iz z))) ?_; unfold lvC; (repeat' split) <;> omega)
def k_joined (x s y : Int) : Int := if s = 202 then bI (¬ x = 0 ∨ ¬ y = 0) else if s = 203 then bI (¬ x = 0 ∧ ¬ y = 0) else if s = 60 then bI (x < y) else if s = 61 then bI (x = y) else if s = 43 then wr (x + y) else if s = 45 then wr (x - y) else wr (x * y)
theorem rg_jo {x s y : Int} : Rg (k_joined x s y) := by unfold k_joined; (repeat' split) <;> first | exact rg_bI | exact rg_wr
def k_fewer (x y : Int) : Int := if x = -1 then y else if y = -1 then x else if x ≤ y then x else y
theorem rg_few {x y : Int} (h : Rg x ∧ Rg y) : Rg (k_fewer x y) := by unfold k_fewer; (repeat' split) <;> first | exact h.1 | exact h.2
theorem V106_0 {d : Nat} (hd : 0 ≤ d) {Q : Option Value → xM → Prop} {σ : xM} {x0 x1 x2 : Int} (rr : Rg x0 ∧ Rg x1 ∧ Rg x2) (h : (((x1 = 43) → Q (some (.int (iz (wr (x0 + x2))))) (σ)) ∧ (¬ (x1 = 43) → ((x1 = 45) → Q (some (.int (iz (wr (x0 - x2))))) (σ)) ∧ (¬ (x1 = 45) → ((x1 = 60) → (((x2 ≤ x0) → Q (some (.int (iz 0))) (σ)) ∧ (¬ (x2 ≤ x0) → Q (some (.int (iz 1))) (σ)))) ∧ (¬ (x1 = 60) → ((x1 = 61) → (((x0 = x2) → Q (some (.int (iz 1))) (σ)) ∧ (¬ (x0 = x2) → Q (some (.int (iz 0))) (σ)))) ∧ (¬ (x1 = 61) → ((x1 = 202) → (((x0 = 0) → (((x2 = 0) → Q (some (.int (iz 0))) (σ)) ∧ (¬ (x2 = 0) → Q (some (.int (iz 1))) (σ)))) ∧ (¬ (x0 = 0) → Q (some (.int (iz 1))) (σ)))) ∧ (¬ (x1 = 202) → ((x1 = 203) → (((x0 = 0) → Q (some (.int (iz 0))) (σ)) ∧ (¬ (x0 = 0) → (((x2 = 0) → Q (some (.int (iz 0))) (σ)) ∧ (¬ (x2 = 0) → Q (some (.int (iz 1))) (σ)))))) ∧ (¬ (x1 = 203) → Q (some (.int (iz (wr (x0 * x2))))) (σ))))))))) : wpE (xT 106) (xev xT d) Q (0, [(0, .int (iz x0)), (1, .int (iz x1)), (2, .int (iz x2))], [], σ) := by
  refine p_ild (cc3 c106_0) rfl ?_
  refine (fun _ : Rg x1 => p_sw (cc3 c106_1) ?_) rr.2.1
  refine sw_c (n := 43) rr.2.1 zl_43 (by decide) (fun c => ?_) (fun c => ?_)
  · have h := h.1 c
    refine p_ild (cc3 c106_110) rfl ?_
    refine p_ild (cc3 c106_111) rfl ?_
    refine i_op (z := wr (x0 + x2)) (cc3 c106_112) (iz_add.trans (iz_of _).symm) ?_
    exact p_ri (cc3 c106_113) trivial h
  · have h := h.2 c
    refine sw_c (n := 45) rr.2.1 zl_45 (by decide) (fun c => ?_) (fun c => ?_)
    · have h := h.1 c
      refine p_ild (cc3 c106_114) rfl ?_
      refine p_ild (cc3 c106_115) rfl ?_
      refine i_op (z := wr (x0 - x2)) (cc3 c106_116) (iz_sub.trans (iz_of _).symm) ?_
      exact p_ri (cc3 c106_117) trivial h
    · have h := h.2 c
      refine sw_c (n := 60) rr.2.1 zl_60 (by decide) (fun c => ?_) (fun c => ?_)
      · have h := h.1 c
        refine p_ild (cc3 c106_88) rfl ?_
        refine p_ild (cc3 c106_89) rfl ?_
        refine i_icmp (c' := x2 ≤ x0) (cc3 c106_90) (iz_le rr.2.2 rr.1) (fun c => ?_) (fun c => ?_)
        · have h := h.1 c
          refine i_push (n := 0) (cc3 c106_97) zl_0 ?_
          refine p_lc (ls' := []) c106_98 rfl rfl ?_
          exact p_ri (cct c106_98 rfl) trivial h
        · have h := h.2 c
          refine i_push (n := 1) (cc3 c106_93) zl_1 ?_
          refine p_goto (cc3 c106_94) ?_
          refine p_lc (ls' := []) c106_98 rfl rfl ?_
          exact p_ri (cct c106_98 rfl) trivial h
      · have h := h.2 c
        refine sw_c (n := 61) rr.2.1 zl_61 (by decide) (fun c => ?_) (fun c => ?_)
        · have h := h.1 c
          refine p_ild (cc3 c106_99) rfl ?_
          refine p_ild (cc3 c106_100) rfl ?_
          refine i_icmp (c' := x0 = x2) (cc3 c106_101) (iz_inj rr.1 rr.2.2) (fun c => ?_) (fun c => ?_)
          · have h := h.1 c
            refine i_push (n := 1) (cc3 c106_104) zl_1 ?_
            refine p_goto (cc3 c106_105) ?_
            refine p_lc (ls' := []) c106_109 rfl rfl ?_
            exact p_ri (cct c106_109 rfl) trivial h
          · have h := h.2 c
            refine i_push (n := 0) (cc3 c106_108) zl_0 ?_
            refine p_lc (ls' := []) c106_109 rfl rfl ?_
            exact p_ri (cct c106_109 rfl) trivial h
        · have h := h.2 c
          refine sw_c (n := 202) rr.2.1 zl_202 (by decide) (fun c => ?_) (fun c => ?_)
          · have h := h.1 c
            refine p_ild (cc3 c106_60) rfl ?_
            refine i_if (c' := x0 = 0) (cc3 c106_61) (c_eq0 rr.1) (fun c => ?_) (fun c => ?_)
            · have h := h.1 c
              refine p_ild (cc3 c106_64) rfl ?_
              refine i_if (c' := x2 = 0) (cc3 c106_65) (c_eq0 rr.2.2) (fun c => ?_) (fun c => ?_)
              · have h := h.1 c
                refine i_push (n := 0) (cc3 c106_72) zl_0 ?_
                refine p_lc (ls' := []) c106_73 rfl rfl ?_
                exact p_ri (cct c106_73 rfl) trivial h
              · have h := h.2 c
                refine p_lc (ls' := []) c106_68 rfl rfl ?_
                refine i_push (n := 1) (cct c106_68 rfl) zl_1 ?_
                refine p_goto (cc3 c106_69) ?_
                exact p_ri (cct c106_73 rfl) trivial h
            · have h := h.2 c
              refine p_lc (ls' := []) c106_68 rfl rfl ?_
              refine i_push (n := 1) (cct c106_68 rfl) zl_1 ?_
              refine p_goto (cc3 c106_69) ?_
              exact p_ri (cct c106_73 rfl) trivial h
          · have h := h.2 c
            refine sw_c (n := 203) rr.2.1 zl_203 (by decide) (fun c => ?_) (fun c => ?_)
            · have h := h.1 c
              refine p_ild (cc3 c106_74) rfl ?_
              refine i_if (c' := x0 = 0) (cc3 c106_75) (c_eq0 rr.1) (fun c => ?_) (fun c => ?_)
              · have h := h.1 c
                refine p_lc (ls' := []) c106_86 rfl rfl ?_
                refine i_push (n := 0) (cct c106_86 rfl) zl_0 ?_
                exact p_ri (cct c106_87 rfl) trivial h
              · have h := h.2 c
                refine p_ild (cc3 c106_78) rfl ?_
                refine i_if (c' := x2 = 0) (cc3 c106_79) (c_eq0 rr.2.2) (fun c => ?_) (fun c => ?_)
                · have h := h.1 c
                  refine p_lc (ls' := []) c106_86 rfl rfl ?_
                  refine i_push (n := 0) (cct c106_86 rfl) zl_0 ?_
                  exact p_ri (cct c106_87 rfl) trivial h
                · have h := h.2 c
                  refine i_push (n := 1) (cc3 c106_82) zl_1 ?_
                  refine p_goto (cc3 c106_83) ?_
                  refine p_lc (ls' := []) c106_87 rfl rfl ?_
                  exact p_ri (cct c106_87 rfl) trivial h
            · have h := h.2 c
              refine sw_d ?_
              refine p_ild (cc3 c106_118) rfl ?_
              refine p_ild (cc3 c106_119) rfl ?_
              refine i_op (z := wr (x0 * x2)) (cc3 c106_120) (iz_mul.trans (iz_of _).symm) ?_
              exact p_ri (cc3 c106_121) trivial h
theorem S106 {d : Nat} (hd : 1 ≤ d) {σ : xM} {x0 x1 x2 : Int} (rr : Rg x0 ∧ Rg x1 ∧ Rg x2) : xev xT d 106 [.int (iz x0), .int (iz x1), .int (iz x2)] (σ) (some (.int (iz (k_joined x0 x1 x2)))) (σ) := by
  refine xev_i (D := 0) hd (Nat.le_of_ble_eq_true rfl) (fun d hd => V106_0 hd rr ?_)
  repeat' (first | refine And.intro ?_ ?_ | intro _)
  all_goals (try (refine congrArg (fun z => some (Value.int (iz z))) ?_))
  all_goals (try rfl)
  all_goals (unfold k_joined; (repeat' split) <;> first | omega | rfl | exact (bI_t (by omega)).symm | exact (bI_f (by omega)).symm | (exfalso; omega))
theorem V81_0 {d : Nat} (hd : 0 ≤ d) {Q : Option Value → xM → Prop} {σ : xM} {x0 x1 : Int} (rr : Rg x0 ∧ Rg x1) (h : (((x0 = (-1)) → Q (some (.int (iz x1))) (σ)) ∧ (¬ (x0 = (-1)) → (((x1 = (-1)) → Q (some (.int (iz x0))) (σ)) ∧ (¬ (x1 = (-1)) → (((x0 ≤ x1) → Q (some (.int (iz x0))) (σ)) ∧ (¬ (x0 ≤ x1) → Q (some (.int (iz x1))) (σ)))))))) : wpE (xT 81) (xev xT d) Q (0, [(0, .int (iz x0)), (1, .int (iz x1))], [], σ) := by
  refine p_ild (cc3 c81_0) rfl ?_
  refine i_push (n := (-1)) (cc3 c81_1) zl_m1 ?_
  refine i_icmp (c' := x0 = (-1)) (cc3 c81_2) (iz_inj rr.1 (by decide : Rg (-1 : Int))) (fun c => ?_) (fun c => ?_)
  · have h := h.1 c
    refine p_lc (ls' := [(1, .int (iz x1))]) c81_15 rfl rfl ?_
    refine p_ild (cct c81_15 rfl) rfl ?_
    refine p_goto (cc3 c81_16) ?_
    refine p_lc (ls' := []) c81_20 rfl rfl ?_
    exact p_ri (cct c81_20 rfl) trivial h
  · have h := h.2 c
    refine p_ild (cc3 c81_5) rfl ?_
    refine i_push (n := (-1)) (cc3 c81_6) zl_m1 ?_
    refine i_icmp (c' := x1 = (-1)) (cc3 c81_7) (iz_inj rr.2 (by decide : Rg (-1 : Int))) (fun c => ?_) (fun c => ?_)
    · have h := h.1 c
      refine p_lc (ls' := [(0, .int (iz x0))]) c81_19 rfl rfl ?_
      refine p_ild (cct c81_19 rfl) rfl ?_
      refine p_lc (ls' := []) c81_20 rfl rfl ?_
      exact p_ri (cct c81_20 rfl) trivial h
    · have h := h.2 c
      refine p_ild (cc3 c81_10) rfl ?_
      refine p_ild (cc3 c81_11) rfl ?_
      refine i_icmp (c' := x0 ≤ x1) (cc3 c81_12) (iz_le rr.1 rr.2) (fun c => ?_) (fun c => ?_)
      · have h := h.1 c
        refine p_lc (ls' := [(0, .int (iz x0))]) c81_19 rfl rfl ?_
        refine p_ild (cct c81_19 rfl) rfl ?_
        refine p_lc (ls' := []) c81_20 rfl rfl ?_
        exact p_ri (cct c81_20 rfl) trivial h
      · have h := h.2 c
        refine p_lc (ls' := [(1, .int (iz x1))]) c81_15 rfl rfl ?_
        refine p_ild (cct c81_15 rfl) rfl ?_
        refine p_goto (cc3 c81_16) ?_
        refine p_lc (ls' := []) c81_20 rfl rfl ?_
        exact p_ri (cct c81_20 rfl) trivial h
theorem S81 {d : Nat} (hd : 1 ≤ d) {σ : xM} {x0 x1 : Int} (rr : Rg x0 ∧ Rg x1) : xev xT d 81 [.int (iz x0), .int (iz x1)] (σ) (some (.int (iz (k_fewer x0 x1)))) (σ) := by
  refine xev_i (D := 0) hd (Nat.le_of_ble_eq_true rfl) (fun d hd => V81_0 hd rr ?_)
  repeat' (first | refine And.intro ?_ ?_ | intro _)
  all_goals (first | assumption | rfl | omega | (refine congrArg (fun z => some (Value.int (iz z))) ?_; first | omega | exact (bI_f (by omega)).symm | exact (bI_t (by omega)).symm | exact bI_i (by omega)) | (refine congrArg (fun z => some (Value.int (iz z))) ?_; (try unfold k_fewer); (repeat' split) <;> first | rfl | omega | (exfalso; omega)))
theorem V59_0 {d : Nat} (hd : 0 ≤ d) {Q : Option Value → xM → Prop} {σ : xM} {x0 x1 x2 : Int} (rr : Rg x0 ∧ Rg x1 ∧ Rg x2) (h : (Rg (x1 - x2)) ∧ (Rg ((x1 - x2) * x0)) ∧ Q (some (.int (iz (((x1 - x2) * x0).tdiv 2)))) (σ)) : wpE (xT 59) (xev xT d) Q (0, [(0, .int (iz x0)), (1, .int (iz x1)), (2, .int (iz x2))], [], σ) := by
  refine p_ild (cc3 c59_0) rfl ?_
  refine p_ild (cc3 c59_1) rfl ?_
  obtain ⟨g1, h⟩ := h
  refine (fun _ : Rg (x1 - x2) => i_sub (cc3 c59_2) ?_) g1
  refine p_ild (cc3 c59_3) rfl ?_
  obtain ⟨g2, h⟩ := h
  refine (fun _ : Rg ((x1 - x2) * x0) => i_mul (cc3 c59_4) ?_) g2
  refine i_push (n := 2) (cc3 c59_5) zl_2 ?_
  refine i_div (cc3 c59_6) g2 (by decide) ?_
  exact p_ri (cc3 c59_7) trivial h

theorem rg_tap {x y z : Int} (h : (0 ≤ x ∧ x ≤ 100) ∧ (0 ≤ y - z ∧ y - z ≤ 100)) : Rg ((y - z) * x / 2) := by
  have h := mlb (m := 100) (n := 100) ⟨h.2, h.1⟩
  constructor <;> omega
theorem S59 {d : Nat} (hd : 1 ≤ d) {σ : xM} {x0 x1 x2 : Int} (rr : Rg x0 ∧ Rg x1 ∧ Rg x2) (hp : (0 ≤ x0 ∧ x0 ≤ 100) ∧ (0 ≤ x1 - x2 ∧ x1 - x2 ≤ 100)) : xev xT d 59 [.int (iz x0), .int (iz x1), .int (iz x2)] (σ) (some (.int (iz ((x1 - x2) * x0 / 2)))) (σ) := by
  refine xev_i (D := 0) hd (Nat.le_of_ble_eq_true rfl) (fun d hd => V59_0 hd rr ?_)

  have h := mlb (m := 100) (n := 100) ⟨hp.2, hp.1⟩
  refine ⟨⟨by omega, by omega⟩, ⟨by omega, by omega⟩, congrArg (fun z => some (Value.int (iz z))) ?_, rfl⟩
  exact tdiv_pos h.1
theorem V60_0 {d : Nat} (hd : 1 ≤ d) {Q : Option Value → xM → Prop} {σ : xM} {x0 x1 x2 : Int} (rr : Rg x0 ∧ Rg x1 ∧ Rg x2) (h : (((1 ≤ x2) → (Rg (x1 * x0)) ∧ (Rg (2 * x2)) ∧ (0 < (2 * x2) ∧ (2 * x2) ≤ 2147483647) ∧ Q (some (.int (iz (max 1 ((x1 * x0).tdiv (2 * x2)))))) (σ)) ∧ (¬ (1 ≤ x2) → Q (some (.int (iz 1))) (σ)))) : wpE (xT 60) (xev xT d) Q (0, [(0, .int (iz x0)), (1, .int (iz x1)), (2, .int (iz x2))], [], σ) := by
  refine p_ild (cc3 c60_0) rfl ?_
  refine i_push (n := 1) (cc3 c60_1) zl_1 ?_
  refine i_icmp (c' := 1 ≤ x2) (cc3 c60_2) (iz_le (by decide : Rg (1 : Int)) rr.2.2) (fun c => ?_) (fun c => ?_)
  · have h := h.1 c
    refine i_push (n := 1) (cc3 c60_9) zl_1 ?_
    refine p_ild (cc3 c60_10) rfl ?_
    refine p_ild (cc3 c60_11) rfl ?_
    obtain ⟨g1, h⟩ := h
    refine (fun _ : Rg (x1 * x0) => i_mul (cc3 c60_12) ?_) g1
    refine i_push (n := 2) (cc3 c60_13) zl_2 ?_
    refine p_ild (cc3 c60_14) rfl ?_
    obtain ⟨g2, h⟩ := h
    refine (fun _ : Rg (2 * x2) => i_mul (cc3 c60_15) ?_) g2
    obtain ⟨g3, h⟩ := h
    refine i_div (cc3 c60_16) g1 g3 ?_
    refine p_callS (cc3 c60_17) (Nat.le_of_ble_eq_true rfl) rfl rfl (Nat.le_of_ble_eq_true rfl) (S61 (Nat.le_trans (by decide) hd) ⟨(by decide : Rg (1 : Int)), (rg_tdiv g1 g3.1)⟩) ?_
    refine p_lc (ls' := []) c60_20 rfl rfl ?_
    exact p_ri (cct c60_20 rfl) trivial h
  · have h := h.2 c
    refine i_push (n := 1) (cc3 c60_5) zl_1 ?_
    refine p_goto (cc3 c60_6) ?_
    refine p_lc (ls' := []) c60_20 rfl rfl ?_
    exact p_ri (cct c60_20 rfl) trivial h

theorem wid_b {x y z : Int} (h : (4 ≤ x ∧ x ≤ 40) ∧ (20 ≤ y ∧ y ≤ 60) ∧ (4 ≤ z ∧ z ≤ 24)) : 1 ≤ y * x / (2 * z) ∧ y * x / (2 * z) ≤ 300 := by
  have h2 := mlb (a := y) (b := x) (m := 60) (n := 40) ⟨by omega, by omega⟩
  have h3 : 20 * 4 ≤ y * x := Int.mul_le_mul (by omega) (by omega) (by omega) (by omega)
  refine ⟨(Int.le_ediv_iff_mul_le (by omega)).mpr (by omega), ?_⟩
  refine Int.ediv_le_of_le_mul (by omega) (by omega)
theorem rg_wid {x y z : Int} (h : (4 ≤ x ∧ x ≤ 40) ∧ (20 ≤ y ∧ y ≤ 60) ∧ (4 ≤ z ∧ z ≤ 24)) : Rg (y * x / (2 * z)) := by have := wid_b h; constructor <;> omega
theorem S60 {d : Nat} (hd : 2 ≤ d) {σ : xM} {x0 x1 x2 : Int} (rr : Rg x0 ∧ Rg x1 ∧ Rg x2) (hp : (4 ≤ x0 ∧ x0 ≤ 40) ∧ (20 ≤ x1 ∧ x1 ≤ 60) ∧ (4 ≤ x2 ∧ x2 ≤ 24)) : xev xT d 60 [.int (iz x0), .int (iz x1), .int (iz x2)] (σ) (some (.int (iz (x1 * x0 / (2 * x2))))) (σ) := by
  refine xev_i (D := 1) hd (Nat.le_of_ble_eq_true rfl) (fun d hd => V60_0 hd rr ?_)

  obtain ⟨p1, p2, p3⟩ := hp
  have h := wid_b ⟨p1, p2, p3⟩
  have h2 := mlb (a := x1) (b := x0) (m := 60) (n := 40) ⟨by omega, by omega⟩
  refine ⟨fun c => ⟨⟨by omega, by omega⟩, ⟨by omega, by omega⟩, by omega, congrArg (fun z => some (Value.int (iz z))) ?_, rfl⟩, fun c => absurd (by omega) c⟩
  rw [tdiv_pos h2.1]; omega
theorem V58_0 {d : Nat} (hd : 2 ≤ d) {Q : Option Value → xM → Prop} {σ : xM} {x0 x1 x2 x3 : Int} (rr : Rg x0 ∧ Rg x1 ∧ Rg x2 ∧ Rg x3) (h : (((x0 < 4) → Q (some (.int (iz 0))) (σ)) ∧ (¬ (x0 < 4) → (((40 < x0) → Q (some (.int (iz 0))) (σ)) ∧ (¬ (40 < x0) → (((x1 < 20) → Q (some (.int (iz 0))) (σ)) ∧ (¬ (x1 < 20) → (((60 < x1) → Q (some (.int (iz 0))) (σ)) ∧ (¬ (60 < x1) → (((x3 < 20) → Q (some (.int (iz 0))) (σ)) ∧ (¬ (x3 < 20) → (((x1 < x3) → Q (some (.int (iz 0))) (σ)) ∧ (¬ (x1 < x3) → (((x2 < 4) → Q (some (.int (iz 0))) (σ)) ∧ (¬ (x2 < 4) → (((x2 ≤ 24) → (0 ≤ x0 ∧ x0 ≤ 100) ∧ (0 ≤ x1 - x3 ∧ x1 - x3 ≤ 100) ∧ (4 ≤ x0 ∧ x0 ≤ 40) ∧ (20 ≤ x1 ∧ x1 ≤ 60) ∧ (4 ≤ x2 ∧ x2 ≤ 24) ∧ (Rg ((x1 * x0 / (2 * x2)) - 1)) ∧ (Rg (x2 * ((x1 * x0 / (2 * x2)) - 1))) ∧ (Rg ((x2 * ((x1 * x0 / (2 * x2)) - 1)) + 1)) ∧ (((((x2 * ((x1 * x0 / (2 * x2)) - 1)) + 1) ≤ ((x1 - x3) * x0 / 2)) → Q (some (.int (iz 0))) (σ)) ∧ (¬ (((x2 * ((x1 * x0 / (2 * x2)) - 1)) + 1) ≤ ((x1 - x3) * x0 / 2)) → Q (some (.int (iz 1))) (σ)))) ∧ (¬ (x2 ≤ 24) → Q (some (.int (iz 0))) (σ)))))))))))))))))) : wpE (xT 58) (xev xT d) Q (0, [(0, .int (iz x0)), (1, .int (iz x1)), (2, .int (iz x2)), (3, .int (iz x3))], [], σ) := by
  refine p_ild (cc3 c58_0) rfl ?_
  refine i_push (n := 4) (cc3 c58_1) zl_4 ?_
  refine i_icmp (c' := x0 < 4) (cc3 c58_2) (iz_lt rr.1 (by decide : Rg (4 : Int))) (fun c => ?_) (fun c => ?_)
  · have h := h.1 c
    refine p_lc (ls' := []) c58_45 rfl rfl ?_
    refine i_push (n := 0) (cct c58_45 rfl) zl_0 ?_
    exact i_ri (cc3 c58_46) (by decide) h
  · have h := h.2 c
    refine p_ild (cc3 c58_5) rfl ?_
    refine i_push (n := 40) (cc3 c58_6) zl_40 ?_
    refine i_icmp (c' := 40 < x0) (cc3 c58_8) (iz_lt (by decide : Rg (40 : Int)) rr.1) (fun c => ?_) (fun c => ?_)
    · have h := h.1 c
      refine p_lc (ls' := []) c58_45 rfl rfl ?_
      refine i_push (n := 0) (cct c58_45 rfl) zl_0 ?_
      exact i_ri (cc3 c58_46) (by decide) h
    · have h := h.2 c
      refine p_ild (cc3 c58_11) rfl ?_
      refine i_push (n := 20) (cc3 c58_12) zl_20 ?_
      refine i_icmp (c' := x1 < 20) (cc3 c58_14) (iz_lt rr.2.1 (by decide : Rg (20 : Int))) (fun c => ?_) (fun c => ?_)
      · have h := h.1 c
        refine p_lc (ls' := []) c58_45 rfl rfl ?_
        refine i_push (n := 0) (cct c58_45 rfl) zl_0 ?_
        exact i_ri (cc3 c58_46) (by decide) h
      · have h := h.2 c
        refine p_ild (cc3 c58_17) rfl ?_
        refine i_push (n := 60) (cc3 c58_18) zl_60 ?_
        refine i_icmp (c' := 60 < x1) (cc3 c58_20) (iz_lt (by decide : Rg (60 : Int)) rr.2.1) (fun c => ?_) (fun c => ?_)
        · have h := h.1 c
          refine p_lc (ls' := []) c58_45 rfl rfl ?_
          refine i_push (n := 0) (cct c58_45 rfl) zl_0 ?_
          exact i_ri (cc3 c58_46) (by decide) h
        · have h := h.2 c
          refine p_ild (cc3 c58_23) rfl ?_
          refine i_push (n := 20) (cc3 c58_24) zl_20 ?_
          refine i_icmp (c' := x3 < 20) (cc3 c58_26) (iz_lt rr.2.2.2 (by decide : Rg (20 : Int))) (fun c => ?_) (fun c => ?_)
          · have h := h.1 c
            refine p_lc (ls' := []) c58_45 rfl rfl ?_
            refine i_push (n := 0) (cct c58_45 rfl) zl_0 ?_
            exact i_ri (cc3 c58_46) (by decide) h
          · have h := h.2 c
            refine p_ild (cc3 c58_29) rfl ?_
            refine p_ild (cc3 c58_30) rfl ?_
            refine i_icmp (c' := x1 < x3) (cc3 c58_31) (iz_lt rr.2.1 rr.2.2.2) (fun c => ?_) (fun c => ?_)
            · have h := h.1 c
              refine p_lc (ls' := []) c58_45 rfl rfl ?_
              refine i_push (n := 0) (cct c58_45 rfl) zl_0 ?_
              exact i_ri (cc3 c58_46) (by decide) h
            · have h := h.2 c
              refine p_ild (cc3 c58_34) rfl ?_
              refine i_push (n := 4) (cc3 c58_35) zl_4 ?_
              refine i_icmp (c' := x2 < 4) (cc3 c58_36) (iz_lt rr.2.2.1 (by decide : Rg (4 : Int))) (fun c => ?_) (fun c => ?_)
              · have h := h.1 c
                refine p_lc (ls' := []) c58_45 rfl rfl ?_
                refine i_push (n := 0) (cct c58_45 rfl) zl_0 ?_
                exact i_ri (cc3 c58_46) (by decide) h
              · have h := h.2 c
                refine p_ild (cc3 c58_39) rfl ?_
                refine i_push (n := 24) (cc3 c58_40) zl_24 ?_
                refine i_icmp (c' := x2 ≤ 24) (cc3 c58_42) (iz_le rr.2.2.1 (by decide : Rg (24 : Int))) (fun c => ?_) (fun c => ?_)
                · have h := h.1 c
                  refine p_ild (cc3 c58_47) rfl ?_
                  refine p_ild (cc3 c58_48) rfl ?_
                  refine p_ild (cc3 c58_49) rfl ?_
                  obtain ⟨g1, h⟩ := h
                  obtain ⟨g2, h⟩ := h
                  refine p_callS (cc3 c58_50) (Nat.le_of_ble_eq_true rfl) rfl rfl (Nat.le_of_ble_eq_true rfl) (S59 (Nat.le_trans (by decide) hd) ⟨rr.1, rr.2.1, rr.2.2.2⟩ ⟨g1, g2⟩) ?_
                  refine p_ild (cc3 c58_53) rfl ?_
                  refine p_ild (cc3 c58_54) rfl ?_
                  refine p_ild (cc3 c58_55) rfl ?_
                  refine p_ild (cc3 c58_56) rfl ?_
                  obtain ⟨g3, h⟩ := h
                  obtain ⟨g4, h⟩ := h
                  obtain ⟨g5, h⟩ := h
                  refine p_callS (cc3 c58_57) (Nat.le_of_ble_eq_true rfl) rfl rfl (Nat.le_of_ble_eq_true rfl) (S60 (Nat.le_trans (by decide) hd) ⟨rr.1, rr.2.1, rr.2.2.1⟩ ⟨g3, g4, g5⟩) ?_
                  refine i_push (n := 1) (cc3 c58_60) zl_1 ?_
                  obtain ⟨g6, h⟩ := h
                  refine (fun _ : Rg ((x1 * x0 / (2 * x2)) - 1) => i_sub (cc3 c58_61) ?_) g6
                  obtain ⟨g7, h⟩ := h
                  refine (fun _ : Rg (x2 * ((x1 * x0 / (2 * x2)) - 1)) => i_mul (cc3 c58_62) ?_) g7
                  refine i_push (n := 1) (cc3 c58_63) zl_1 ?_
                  obtain ⟨g8, h⟩ := h
                  refine (fun _ : Rg ((x2 * ((x1 * x0 / (2 * x2)) - 1)) + 1) => i_add (cc3 c58_64) ?_) g8
                  refine i_icmp (c' := ((x2 * ((x1 * x0 / (2 * x2)) - 1)) + 1) ≤ ((x1 - x3) * x0 / 2)) (cc3 c58_65) (iz_le g8 (rg_tap ⟨g1, g2⟩)) (fun c => ?_) (fun c => ?_)
                  · have h := h.1 c
                    refine i_push (n := 0) (cc3 c58_72) zl_0 ?_
                    refine p_lc (ls' := []) c58_73 rfl rfl ?_
                    exact i_ri (cct c58_73 rfl) (by decide) h
                  · have h := h.2 c
                    refine i_push (n := 1) (cc3 c58_68) zl_1 ?_
                    refine p_goto (cc3 c58_69) ?_
                    refine p_lc (ls' := []) c58_73 rfl rfl ?_
                    exact i_ri (cct c58_73 rfl) (by decide) h
                · have h := h.2 c
                  refine p_lc (ls' := []) c58_45 rfl rfl ?_
                  refine i_push (n := 0) (cct c58_45 rfl) zl_0 ?_
                  exact i_ri (cc3 c58_46) (by decide) h
theorem S58 {d : Nat} (hd : 3 ≤ d) {σ : xM} {x0 x1 x2 x3 : Int} (rr : Rg x0 ∧ Rg x1 ∧ Rg x2 ∧ Rg x3) : xev xT d 58 [.int (iz x0), .int (iz x1), .int (iz x2), .int (iz x3)] (σ) (some (.int (iz (bI ((4 ≤ x0 ∧ x0 ≤ 40) ∧ (20 ≤ x1 ∧ x1 ≤ 60) ∧ (4 ≤ x2 ∧ x2 ≤ 24) ∧ (20 ≤ x3 ∧ x3 ≤ x1) ∧ (x1 - x3) * x0 / 2 ≤ x2 * (x1 * x0 / (2 * x2) - 1)))))) (σ) := by
  refine xev_i (D := 2) hd (Nat.le_of_ble_eq_true rfl) (fun d hd => V58_0 hd rr ?_)

  have n0 : ¬ ((4 ≤ x0 ∧ x0 ≤ 40) ∧ (20 ≤ x1 ∧ x1 ≤ 60) ∧ (4 ≤ x2 ∧ x2 ≤ 24) ∧ (20 ≤ x3 ∧ x3 ≤ x1) ∧ (x1 - x3) * x0 / 2 ≤ x2 * (x1 * x0 / (2 * x2) - 1)) → (some (Value.int (iz 0)) = some (.int (iz (bI ((4 ≤ x0 ∧ x0 ≤ 40) ∧ (20 ≤ x1 ∧ x1 ≤ 60) ∧ (4 ≤ x2 ∧ x2 ≤ 24) ∧ (20 ≤ x3 ∧ x3 ≤ x1) ∧ (x1 - x3) * x0 / 2 ≤ x2 * (x1 * x0 / (2 * x2) - 1))))) ∧ σ = σ) := fun q => ⟨by rw [bI_f q], rfl⟩
  refine ⟨fun c => n0 (fun q => by omega), fun c1 => ⟨fun c => n0 (fun q => by omega), fun c2 => ⟨fun c => n0 (fun q => by omega), fun c3 => ⟨fun c => n0 (fun q => by omega), fun c4 => ⟨fun c => n0 (fun q => by omega), fun c5 => ⟨fun c => n0 (fun q => by omega), fun c6 => ⟨fun c => n0 (fun q => by omega), fun c7 => ⟨fun c8 => ?_, fun c => n0 (fun q => by omega)⟩⟩⟩⟩⟩⟩⟩⟩
  have h1 := wid_b (x := x0) (y := x1) (z := x2) ⟨by omega, by omega, by omega⟩
  have h2 := mlb (a := x2) (b := x1 * x0 / (2 * x2) - 1) (m := 24) (n := 300) ⟨by omega, by omega⟩
  refine ⟨by omega, by omega, by omega, by omega, by omega, ⟨by omega, by omega⟩, ⟨by omega, by omega⟩, ⟨by omega, by omega⟩, fun c => n0 (fun q => by omega), fun c => ⟨congrArg (fun z => some (Value.int (iz z))) (bI_t ⟨by omega, by omega, by omega, by omega, by omega⟩).symm, rfl⟩⟩
theorem V114_0 {d : Nat} (hd : 0 ≤ d) {Q : Option Value → xM → Prop} {σ : xM} {x0 : Int} (rr : Rg x0) (h : (Rg (x0 - (iand (iushr x0 1) 1431655765))) ∧ (Rg ((iand (x0 - (iand (iushr x0 1) 1431655765)) 858993459) + (iand (iushr (x0 - (iand (iushr x0 1) 1431655765)) 2) 858993459))) ∧ (Rg (((iand (x0 - (iand (iushr x0 1) 1431655765)) 858993459) + (iand (iushr (x0 - (iand (iushr x0 1) 1431655765)) 2) 858993459)) + (iushr ((iand (x0 - (iand (iushr x0 1) 1431655765)) 858993459) + (iand (iushr (x0 - (iand (iushr x0 1) 1431655765)) 2) 858993459)) 4))) ∧ (Rg ((iand (((iand (x0 - (iand (iushr x0 1) 1431655765)) 858993459) + (iand (iushr (x0 - (iand (iushr x0 1) 1431655765)) 2) 858993459)) + (iushr ((iand (x0 - (iand (iushr x0 1) 1431655765)) 858993459) + (iand (iushr (x0 - (iand (iushr x0 1) 1431655765)) 2) 858993459)) 4)) 252645135) + (iushr (iand (((iand (x0 - (iand (iushr x0 1) 1431655765)) 858993459) + (iand (iushr (x0 - (iand (iushr x0 1) 1431655765)) 2) 858993459)) + (iushr ((iand (x0 - (iand (iushr x0 1) 1431655765)) 858993459) + (iand (iushr (x0 - (iand (iushr x0 1) 1431655765)) 2) 858993459)) 4)) 252645135) 8))) ∧ (Rg (((iand (((iand (x0 - (iand (iushr x0 1) 1431655765)) 858993459) + (iand (iushr (x0 - (iand (iushr x0 1) 1431655765)) 2) 858993459)) + (iushr ((iand (x0 - (iand (iushr x0 1) 1431655765)) 858993459) + (iand (iushr (x0 - (iand (iushr x0 1) 1431655765)) 2) 858993459)) 4)) 252645135) + (iushr (iand (((iand (x0 - (iand (iushr x0 1) 1431655765)) 858993459) + (iand (iushr (x0 - (iand (iushr x0 1) 1431655765)) 2) 858993459)) + (iushr ((iand (x0 - (iand (iushr x0 1) 1431655765)) 858993459) + (iand (iushr (x0 - (iand (iushr x0 1) 1431655765)) 2) 858993459)) 4)) 252645135) 8)) + (iushr ((iand (((iand (x0 - (iand (iushr x0 1) 1431655765)) 858993459) + (iand (iushr (x0 - (iand (iushr x0 1) 1431655765)) 2) 858993459)) + (iushr ((iand (x0 - (iand (iushr x0 1) 1431655765)) 858993459) + (iand (iushr (x0 - (iand (iushr x0 1) 1431655765)) 2) 858993459)) 4)) 252645135) + (iushr (iand (((iand (x0 - (iand (iushr x0 1) 1431655765)) 858993459) + (iand (iushr (x0 - (iand (iushr x0 1) 1431655765)) 2) 858993459)) + (iushr ((iand (x0 - (iand (iushr x0 1) 1431655765)) 858993459) + (iand (iushr (x0 - (iand (iushr x0 1) 1431655765)) 2) 858993459)) 4)) 252645135) 8)) 16))) ∧ Q (some (.int (iz (iand (((iand (((iand (x0 - (iand (iushr x0 1) 1431655765)) 858993459) + (iand (iushr (x0 - (iand (iushr x0 1) 1431655765)) 2) 858993459)) + (iushr ((iand (x0 - (iand (iushr x0 1) 1431655765)) 858993459) + (iand (iushr (x0 - (iand (iushr x0 1) 1431655765)) 2) 858993459)) 4)) 252645135) + (iushr (iand (((iand (x0 - (iand (iushr x0 1) 1431655765)) 858993459) + (iand (iushr (x0 - (iand (iushr x0 1) 1431655765)) 2) 858993459)) + (iushr ((iand (x0 - (iand (iushr x0 1) 1431655765)) 858993459) + (iand (iushr (x0 - (iand (iushr x0 1) 1431655765)) 2) 858993459)) 4)) 252645135) 8)) + (iushr ((iand (((iand (x0 - (iand (iushr x0 1) 1431655765)) 858993459) + (iand (iushr (x0 - (iand (iushr x0 1) 1431655765)) 2) 858993459)) + (iushr ((iand (x0 - (iand (iushr x0 1) 1431655765)) 858993459) + (iand (iushr (x0 - (iand (iushr x0 1) 1431655765)) 2) 858993459)) 4)) 252645135) + (iushr (iand (((iand (x0 - (iand (iushr x0 1) 1431655765)) 858993459) + (iand (iushr (x0 - (iand (iushr x0 1) 1431655765)) 2) 858993459)) + (iushr ((iand (x0 - (iand (iushr x0 1) 1431655765)) 858993459) + (iand (iushr (x0 - (iand (iushr x0 1) 1431655765)) 2) 858993459)) 4)) 252645135) 8)) 16)) 63)))) (σ)) : wpE (xT 114) (xev xT d) Q (0, [(0, .int (iz x0))], [], σ) := by
  refine p_ild (cc3 c114_0) rfl ?_
  refine p_ild (cc3 c114_1) rfl ?_
  refine i_push (n := 1) (cc3 c114_2) zl_1 ?_
  refine i_op (z := iushr x0 1) (cc3 c114_3) (iz_of _).symm ?_
  refine i_push (n := 1431655765) (cc3 c114_4) zl_1431655765 ?_
  refine i_op (z := iand (iushr x0 1) 1431655765) (cc3 c114_7) (iz_of _).symm ?_
  obtain ⟨g1, h⟩ := h
  refine (fun _ : Rg (x0 - (iand (iushr x0 1) 1431655765)) => i_sub (cc3 c114_8) ?_) g1
  refine p_ist (ls' := [(0, .int (iz (x0 - (iand (iushr x0 1) 1431655765))))]) (cc3 c114_9) (by decide) rfl ?_
  refine p_ild (cc3 c114_10) rfl ?_
  refine i_push (n := 858993459) (cc3 c114_11) zl_858993459 ?_
  refine i_op (z := iand (x0 - (iand (iushr x0 1) 1431655765)) 858993459) (cc3 c114_14) (iz_of _).symm ?_
  refine p_ild (cc3 c114_15) rfl ?_
  refine i_push (n := 2) (cc3 c114_16) zl_2 ?_
  refine i_op (z := iushr (x0 - (iand (iushr x0 1) 1431655765)) 2) (cc3 c114_17) (iz_of _).symm ?_
  refine i_push (n := 858993459) (cc3 c114_18) zl_858993459 ?_
  refine i_op (z := iand (iushr (x0 - (iand (iushr x0 1) 1431655765)) 2) 858993459) (cc3 c114_21) (iz_of _).symm ?_
  obtain ⟨g2, h⟩ := h
  refine (fun _ : Rg ((iand (x0 - (iand (iushr x0 1) 1431655765)) 858993459) + (iand (iushr (x0 - (iand (iushr x0 1) 1431655765)) 2) 858993459)) => i_add (cc3 c114_22) ?_) g2
  refine p_ist (ls' := [(0, .int (iz ((iand (x0 - (iand (iushr x0 1) 1431655765)) 858993459) + (iand (iushr (x0 - (iand (iushr x0 1) 1431655765)) 2) 858993459))))]) (cc3 c114_23) (by decide) rfl ?_
  refine p_ild (cc3 c114_24) rfl ?_
  refine p_ild (cc3 c114_25) rfl ?_
  refine i_push (n := 4) (cc3 c114_26) zl_4 ?_
  refine i_op (z := iushr ((iand (x0 - (iand (iushr x0 1) 1431655765)) 858993459) + (iand (iushr (x0 - (iand (iushr x0 1) 1431655765)) 2) 858993459)) 4) (cc3 c114_27) (iz_of _).symm ?_
  obtain ⟨g3, h⟩ := h
  refine (fun _ : Rg (((iand (x0 - (iand (iushr x0 1) 1431655765)) 858993459) + (iand (iushr (x0 - (iand (iushr x0 1) 1431655765)) 2) 858993459)) + (iushr ((iand (x0 - (iand (iushr x0 1) 1431655765)) 858993459) + (iand (iushr (x0 - (iand (iushr x0 1) 1431655765)) 2) 858993459)) 4)) => i_add (cc3 c114_28) ?_) g3
  refine i_push (n := 252645135) (cc3 c114_29) zl_252645135 ?_
  refine i_op (z := iand (((iand (x0 - (iand (iushr x0 1) 1431655765)) 858993459) + (iand (iushr (x0 - (iand (iushr x0 1) 1431655765)) 2) 858993459)) + (iushr ((iand (x0 - (iand (iushr x0 1) 1431655765)) 858993459) + (iand (iushr (x0 - (iand (iushr x0 1) 1431655765)) 2) 858993459)) 4)) 252645135) (cc3 c114_32) (iz_of _).symm ?_
  refine p_ist (ls' := [(0, .int (iz (iand (((iand (x0 - (iand (iushr x0 1) 1431655765)) 858993459) + (iand (iushr (x0 - (iand (iushr x0 1) 1431655765)) 2) 858993459)) + (iushr ((iand (x0 - (iand (iushr x0 1) 1431655765)) 858993459) + (iand (iushr (x0 - (iand (iushr x0 1) 1431655765)) 2) 858993459)) 4)) 252645135)))]) (cc3 c114_33) (by decide) rfl ?_
  refine p_ild (cc3 c114_34) rfl ?_
  refine p_ild (cc3 c114_35) rfl ?_
  refine i_push (n := 8) (cc3 c114_36) zl_8 ?_
  refine i_op (z := iushr (iand (((iand (x0 - (iand (iushr x0 1) 1431655765)) 858993459) + (iand (iushr (x0 - (iand (iushr x0 1) 1431655765)) 2) 858993459)) + (iushr ((iand (x0 - (iand (iushr x0 1) 1431655765)) 858993459) + (iand (iushr (x0 - (iand (iushr x0 1) 1431655765)) 2) 858993459)) 4)) 252645135) 8) (cc3 c114_38) (iz_of _).symm ?_
  obtain ⟨g4, h⟩ := h
  refine (fun _ : Rg ((iand (((iand (x0 - (iand (iushr x0 1) 1431655765)) 858993459) + (iand (iushr (x0 - (iand (iushr x0 1) 1431655765)) 2) 858993459)) + (iushr ((iand (x0 - (iand (iushr x0 1) 1431655765)) 858993459) + (iand (iushr (x0 - (iand (iushr x0 1) 1431655765)) 2) 858993459)) 4)) 252645135) + (iushr (iand (((iand (x0 - (iand (iushr x0 1) 1431655765)) 858993459) + (iand (iushr (x0 - (iand (iushr x0 1) 1431655765)) 2) 858993459)) + (iushr ((iand (x0 - (iand (iushr x0 1) 1431655765)) 858993459) + (iand (iushr (x0 - (iand (iushr x0 1) 1431655765)) 2) 858993459)) 4)) 252645135) 8)) => i_add (cc3 c114_39) ?_) g4
  refine p_ist (ls' := [(0, .int (iz ((iand (((iand (x0 - (iand (iushr x0 1) 1431655765)) 858993459) + (iand (iushr (x0 - (iand (iushr x0 1) 1431655765)) 2) 858993459)) + (iushr ((iand (x0 - (iand (iushr x0 1) 1431655765)) 858993459) + (iand (iushr (x0 - (iand (iushr x0 1) 1431655765)) 2) 858993459)) 4)) 252645135) + (iushr (iand (((iand (x0 - (iand (iushr x0 1) 1431655765)) 858993459) + (iand (iushr (x0 - (iand (iushr x0 1) 1431655765)) 2) 858993459)) + (iushr ((iand (x0 - (iand (iushr x0 1) 1431655765)) 858993459) + (iand (iushr (x0 - (iand (iushr x0 1) 1431655765)) 2) 858993459)) 4)) 252645135) 8))))]) (cc3 c114_40) (by decide) rfl ?_
  refine p_ild (cc3 c114_41) rfl ?_
  refine p_ild (cc3 c114_42) rfl ?_
  refine i_push (n := 16) (cc3 c114_43) zl_16 ?_
  refine i_op (z := iushr ((iand (((iand (x0 - (iand (iushr x0 1) 1431655765)) 858993459) + (iand (iushr (x0 - (iand (iushr x0 1) 1431655765)) 2) 858993459)) + (iushr ((iand (x0 - (iand (iushr x0 1) 1431655765)) 858993459) + (iand (iushr (x0 - (iand (iushr x0 1) 1431655765)) 2) 858993459)) 4)) 252645135) + (iushr (iand (((iand (x0 - (iand (iushr x0 1) 1431655765)) 858993459) + (iand (iushr (x0 - (iand (iushr x0 1) 1431655765)) 2) 858993459)) + (iushr ((iand (x0 - (iand (iushr x0 1) 1431655765)) 858993459) + (iand (iushr (x0 - (iand (iushr x0 1) 1431655765)) 2) 858993459)) 4)) 252645135) 8)) 16) (cc3 c114_45) (iz_of _).symm ?_
  obtain ⟨g5, h⟩ := h
  refine (fun _ : Rg (((iand (((iand (x0 - (iand (iushr x0 1) 1431655765)) 858993459) + (iand (iushr (x0 - (iand (iushr x0 1) 1431655765)) 2) 858993459)) + (iushr ((iand (x0 - (iand (iushr x0 1) 1431655765)) 858993459) + (iand (iushr (x0 - (iand (iushr x0 1) 1431655765)) 2) 858993459)) 4)) 252645135) + (iushr (iand (((iand (x0 - (iand (iushr x0 1) 1431655765)) 858993459) + (iand (iushr (x0 - (iand (iushr x0 1) 1431655765)) 2) 858993459)) + (iushr ((iand (x0 - (iand (iushr x0 1) 1431655765)) 858993459) + (iand (iushr (x0 - (iand (iushr x0 1) 1431655765)) 2) 858993459)) 4)) 252645135) 8)) + (iushr ((iand (((iand (x0 - (iand (iushr x0 1) 1431655765)) 858993459) + (iand (iushr (x0 - (iand (iushr x0 1) 1431655765)) 2) 858993459)) + (iushr ((iand (x0 - (iand (iushr x0 1) 1431655765)) 858993459) + (iand (iushr (x0 - (iand (iushr x0 1) 1431655765)) 2) 858993459)) 4)) 252645135) + (iushr (iand (((iand (x0 - (iand (iushr x0 1) 1431655765)) 858993459) + (iand (iushr (x0 - (iand (iushr x0 1) 1431655765)) 2) 858993459)) + (iushr ((iand (x0 - (iand (iushr x0 1) 1431655765)) 858993459) + (iand (iushr (x0 - (iand (iushr x0 1) 1431655765)) 2) 858993459)) 4)) 252645135) 8)) 16)) => i_add (cc3 c114_46) ?_) g5
  refine p_ist (ls' := [(0, .int (iz (((iand (((iand (x0 - (iand (iushr x0 1) 1431655765)) 858993459) + (iand (iushr (x0 - (iand (iushr x0 1) 1431655765)) 2) 858993459)) + (iushr ((iand (x0 - (iand (iushr x0 1) 1431655765)) 858993459) + (iand (iushr (x0 - (iand (iushr x0 1) 1431655765)) 2) 858993459)) 4)) 252645135) + (iushr (iand (((iand (x0 - (iand (iushr x0 1) 1431655765)) 858993459) + (iand (iushr (x0 - (iand (iushr x0 1) 1431655765)) 2) 858993459)) + (iushr ((iand (x0 - (iand (iushr x0 1) 1431655765)) 858993459) + (iand (iushr (x0 - (iand (iushr x0 1) 1431655765)) 2) 858993459)) 4)) 252645135) 8)) + (iushr ((iand (((iand (x0 - (iand (iushr x0 1) 1431655765)) 858993459) + (iand (iushr (x0 - (iand (iushr x0 1) 1431655765)) 2) 858993459)) + (iushr ((iand (x0 - (iand (iushr x0 1) 1431655765)) 858993459) + (iand (iushr (x0 - (iand (iushr x0 1) 1431655765)) 2) 858993459)) 4)) 252645135) + (iushr (iand (((iand (x0 - (iand (iushr x0 1) 1431655765)) 858993459) + (iand (iushr (x0 - (iand (iushr x0 1) 1431655765)) 2) 858993459)) + (iushr ((iand (x0 - (iand (iushr x0 1) 1431655765)) 858993459) + (iand (iushr (x0 - (iand (iushr x0 1) 1431655765)) 2) 858993459)) 4)) 252645135) 8)) 16))))]) (cc3 c114_47) (by decide) rfl ?_
  refine p_ild (cc3 c114_48) rfl ?_
  refine i_push (n := 63) (cc3 c114_49) zl_63 ?_
  refine i_op (z := iand (((iand (((iand (x0 - (iand (iushr x0 1) 1431655765)) 858993459) + (iand (iushr (x0 - (iand (iushr x0 1) 1431655765)) 2) 858993459)) + (iushr ((iand (x0 - (iand (iushr x0 1) 1431655765)) 858993459) + (iand (iushr (x0 - (iand (iushr x0 1) 1431655765)) 2) 858993459)) 4)) 252645135) + (iushr (iand (((iand (x0 - (iand (iushr x0 1) 1431655765)) 858993459) + (iand (iushr (x0 - (iand (iushr x0 1) 1431655765)) 2) 858993459)) + (iushr ((iand (x0 - (iand (iushr x0 1) 1431655765)) 858993459) + (iand (iushr (x0 - (iand (iushr x0 1) 1431655765)) 2) 858993459)) 4)) 252645135) 8)) + (iushr ((iand (((iand (x0 - (iand (iushr x0 1) 1431655765)) 858993459) + (iand (iushr (x0 - (iand (iushr x0 1) 1431655765)) 2) 858993459)) + (iushr ((iand (x0 - (iand (iushr x0 1) 1431655765)) 858993459) + (iand (iushr (x0 - (iand (iushr x0 1) 1431655765)) 2) 858993459)) 4)) 252645135) + (iushr (iand (((iand (x0 - (iand (iushr x0 1) 1431655765)) 858993459) + (iand (iushr (x0 - (iand (iushr x0 1) 1431655765)) 2) 858993459)) + (iushr ((iand (x0 - (iand (iushr x0 1) 1431655765)) 858993459) + (iand (iushr (x0 - (iand (iushr x0 1) 1431655765)) 2) 858993459)) 4)) 252645135) 8)) 16)) 63) (cc3 c114_51) (iz_of _).symm ?_
  exact p_ri (cc3 c114_52) trivial h

theorem rg_pc {x : Int} (h : 0 ≤ x ∧ x < 16) : Rg (pc x.toNat) := by unfold pc; constructor <;> omega
theorem S114 {d : Nat} (hd : 1 ≤ d) {σ : xM} {x0 : Int} (rr : Rg x0) (hp : (0 ≤ x0 ∧ x0 < 16)) : xev xT d 114 [.int (iz x0)] (σ) (some (.int (iz (pc (x0).toNat)))) (σ) := by
  refine xev_i (D := 0) hd (Nat.le_of_ble_eq_true rfl) (fun d hd => V114_0 hd rr ?_)

  rcases (show x0 = 0 ∨ x0 = 1 ∨ x0 = 2 ∨ x0 = 3 ∨ x0 = 4 ∨ x0 = 5 ∨ x0 = 6 ∨ x0 = 7 ∨ x0 = 8 ∨ x0 = 9 ∨ x0 = 10 ∨ x0 = 11 ∨ x0 = 12 ∨ x0 = 13 ∨ x0 = 14 ∨ x0 = 15 by omega) with e | e | e | e | e | e | e | e | e | e | e | e | e | e | e | e <;> subst e <;> refine ⟨by decide, by decide, by decide, by decide, by decide, congrArg (fun z => some (Value.int (iz z))) (by decide), rfl⟩
