/-! TOKENS -/
def i64 (n : Nat) : Int64 := Int64.ofInt n
theorem i64_t {n : Nat} (h : n < 2 ^ 63) : (i64 n).toInt = n := Int64.toInt_ofInt_of_le (by omega) (by omega)
theorem i64_cmp0 {n : Nat} (h : n < 2 ^ 63) : (lg_cmp (i64 n) 0).toInt = if n = 0 then 0 else 1 := by
  unfold lg_cmp
  have e0 : (0 : Int64).toInt = 0 := rfl
  by_cases c : n = 0
  · subst c; decide
  · rw [if_neg c, if_pos (show (0 : Int64) < i64 n by rw [Int64.lt_iff_toInt_lt, i64_t h, e0]; omega)]; rfl
theorem i64_and {n : Nat} (h : n < 2 ^ 63) : i64 n &&& 31 = i64 (n % 32) := by
  apply Int64.toInt_inj.mp
  rw [i64_t (by omega)]
  have e1 : (i64 n &&& 31).toBitVec = (i64 n).toBitVec &&& 31#64 := rfl
  have e2 : (i64 n).toBitVec.toNat = n := by
    have h1 := i64_t h
    have h2 : (i64 n).toBitVec.toInt = n := h1
    rw [BitVec.toInt_eq_toNat_cond] at h2
    split at h2 <;> omega
  have e3 : ((i64 n).toBitVec &&& 31#64).toNat = n % 32 := by
    rw [BitVec.toNat_and, e2]
    exact Nat.and_two_pow_sub_one_eq_mod n 5
  show ((i64 n).toBitVec &&& 31#64).toInt = _
  rw [BitVec.toInt_eq_toNat_of_lt (by rw [e3]; omega), e3]
theorem i64_shr {n : Nat} (h : n < 2 ^ 63) : i64 n >>> ((iz 5).toInt64 &&& 63) = i64 (n / 32) := by
  apply Int64.toInt_inj.mp
  rw [i64_t (by omega)]
  have e0 : ((iz 5).toInt64 &&& 63 : Int64) = 5 := by decide
  rw [e0]
  have e1 : (i64 n >>> (5 : Int64)).toInt = (i64 n).toInt >>> 5 := by
    rw [← Int64.toInt_toBitVec, Int64.toBitVec_shiftRight, show (Int64.toBitVec 5).smod 64 = 5#64 by decide]
    show ((i64 n).toBitVec.sshiftRight 5).toInt = _
    rw [BitVec.toInt_sshiftRight]
    rfl
  rw [e1, i64_t h, Int.shiftRight_eq_div_pow]
  rfl
theorem i64_eq {n : Nat} {c : Int} (h : n < 2 ^ 31) (hc : Rg c) : (lg_cmp (i64 n) (iz c).toInt64).toInt = 0 ↔ c = n := by
  have h1 := i64_t (n := n) (by omega)
  have h2 : (iz c).toInt64.toInt = c := by rw [Int32.toInt_toInt64, iz_t hc]
  unfold lg_cmp
  by_cases q : c = n
  · have e : i64 n = (iz c).toInt64 := Int64.toInt_inj.mp (by rw [h1, h2, q])
    rw [if_neg (by rw [e]; exact Int64.lt_irrefl), if_pos e]
    exact ⟨fun _ => q, fun _ => rfl⟩
  · have e : ¬ i64 n = (iz c).toInt64 := fun e => q (by rw [← h2, ← e, h1])
    rw [if_neg e]
    refine ⟨fun w => ?_, fun w => absurd w q⟩
    split at w <;> exact absurd w (by decide)
/-- is the word that ends at k, begins at b, spelt by the digits of n (the last letter first) -/
def wq (t : Int → Int) (b : Int) : Nat → Nat → Int → Bool
  | 0, n, k => decide (n = 0 ∧ k = b - 1)
  | f + 1, n, k => if n = 0 then decide (k = b - 1) else if b ≤ k ∧ t k - 96 = ((n % 32 : Nat) : Int) then wq t b f (n / 32) (k - 1) else false
def TapeB (t : Int → Int) : Prop := ∀ k, -128 ≤ t k ∧ t k ≤ 127
def m_isW (A : Nat → Int → Int) (w : Int64) : Bool := wq (A 1) (A 0 49) 13 w.toInt.toNat (A 0 46 - 1)
theorem V175_0 {d : Nat} (hd : 0 ≤ d) {Q : Option Value → xM → Prop} {m : Nat} {Φ : (Nat → Nat → Int32) → xM} (hΦ : MLaw m Φ) {A : Nat → Int → Int} (hR : RG A) {w1 : Int64} (h : (Rg ((A 0 46) - 1)) ∧ wpE (xT 175) (xev xT d) Q (10, [(0, .ref m), (3, .long w1), (5, .int (iz ((A 0 46) - 1)))], [], Φ (mI A))) : wpE (xT 175) (xev xT d) Q (0, [(0, .ref m), (1, .long w1)], [], Φ (mI A)) := by
  refine p_lld (cc3 c175_0) rfl ?_
  refine p_lst (ls' := [(3, .long w1), (0, .ref m), (1, .long w1)]) (cc3 c175_1) (by decide) rfl ?_
  refine p_ald (cc3 c175_2) rfl ?_
  refine n_geti hΦ (v := A 0 46) (cc3 c175_3) (ji := 46) rfl rfl ?_
  refine i_push (n := 1) (cc3 c175_6) zl_1 ?_
  obtain ⟨g1, h⟩ := h
  refine (fun _ : Rg ((A 0 46) - 1) => i_sub (cc3 c175_7) ?_) g1
  refine p_ist (ls' := [(5, .int (iz ((A 0 46) - 1))), (3, .long w1), (0, .ref m), (1, .long w1)]) (cc3 c175_8) (by decide) rfl ?_
  exact p_lc (ls' := [(0, .ref m), (3, .long w1), (5, .int (iz ((A 0 46) - 1)))]) c175_10 rfl rfl h
theorem V175_10 {d : Nat} (hd : 0 ≤ d) {Q : Option Value → xM → Prop} {m : Nat} {Φ : (Nat → Nat → Int32) → xM} (hΦ : MLaw m Φ) {A : Nat → Int → Int} (hR : RG A) {x5 : Int} {w3 : Int64} (rr : Rg x5) (h : (((x5 < (A 0 49)) → (((((lg_cmp w3 (0 : Int64)).toInt) = 0) → (Rg ((A 0 49) - 1)) ∧ (((x5 = ((A 0 49) - 1)) → Q (some (.int (iz 1))) (Φ (mI A))) ∧ (¬ (x5 = ((A 0 49) - 1)) → Q (some (.int (iz 0))) (Φ (mI A))))) ∧ (¬ (((lg_cmp w3 (0 : Int64)).toInt) = 0) → Q (some (.int (iz 0))) (Φ (mI A))))) ∧ (¬ (x5 < (A 0 49)) → (((((lg_cmp w3 (0 : Int64)).toInt) ≤ 0) → (((((lg_cmp w3 (0 : Int64)).toInt) = 0) → (Rg ((A 0 49) - 1)) ∧ (((x5 = ((A 0 49) - 1)) → Q (some (.int (iz 1))) (Φ (mI A))) ∧ (¬ (x5 = ((A 0 49) - 1)) → Q (some (.int (iz 0))) (Φ (mI A))))) ∧ (¬ (((lg_cmp w3 (0 : Int64)).toInt) = 0) → Q (some (.int (iz 0))) (Φ (mI A))))) ∧ (¬ (((lg_cmp w3 (0 : Int64)).toInt) ≤ 0) → (0 ≤ x5 ∧ x5 < 160) ∧ (Rg ((A 1 x5) - 96)) ∧ (((((lg_cmp (w3 &&& (31)) ((iz ((A 1 x5) - 96)).toInt64)).toInt) = 0) → (Rg (x5 - 1)) ∧ wpE (xT 175) (xev xT d) Q (10, [(0, .ref m), (3, .long (w3 >>> ((iz 5).toInt64 &&& 63))), (5, .int (iz (x5 - 1)))], [], Φ (mI A))) ∧ (¬ (((lg_cmp (w3 &&& (31)) ((iz ((A 1 x5) - 96)).toInt64)).toInt) = 0) → (((((lg_cmp w3 (0 : Int64)).toInt) = 0) → (Rg ((A 0 49) - 1)) ∧ (((x5 = ((A 0 49) - 1)) → Q (some (.int (iz 1))) (Φ (mI A))) ∧ (¬ (x5 = ((A 0 49) - 1)) → Q (some (.int (iz 0))) (Φ (mI A))))) ∧ (¬ (((lg_cmp w3 (0 : Int64)).toInt) = 0) → Q (some (.int (iz 0))) (Φ (mI A))))))))))) : wpE (xT 175) (xev xT d) Q (10, [(0, .ref m), (3, .long w3), (5, .int (iz x5))], [], Φ (mI A)) := by
  refine p_ild (cct c175_10 rfl) rfl ?_
  refine p_ald (cc3 c175_12) rfl ?_
  refine n_geti hΦ (v := A 0 49) (cc3 c175_13) (ji := 49) rfl rfl ?_
  refine i_icmp (c' := x5 < (A 0 49)) (cc3 c175_16) (iz_lt rr (hR 0 49)) (fun c => ?_) (fun c => ?_)
  · have h := h.1 c
    refine p_lld (cct c175_55 rfl) rfl ?_
    refine p_push (cc3 c175_56) ?_
    refine p_lcmp (cc3 c175_57) ?_
    rw [← iz_of (lg_cmp w3 (0 : Int64))]
    refine i_if (c' := ((lg_cmp w3 (0 : Int64)).toInt) = 0) (cc3 c175_58) (c_eq0 (rg_t _)) (fun c => ?_) (fun c => ?_)
    · have h := h.1 c
      refine p_ild (cc3 c175_61) rfl ?_
      refine p_ald (cc3 c175_63) rfl ?_
      refine n_geti hΦ (v := A 0 49) (cc3 c175_64) (ji := 49) rfl rfl ?_
      refine i_push (n := 1) (cc3 c175_67) zl_1 ?_
      obtain ⟨g1, h⟩ := h
      refine (fun _ : Rg ((A 0 49) - 1) => i_sub (cc3 c175_68) ?_) g1
      refine i_icmp (c' := x5 = ((A 0 49) - 1)) (cc3 c175_69) (iz_inj rr g1) (fun c => ?_) (fun c => ?_)
      · have h := h.1 c
        refine i_push (n := 1) (cc3 c175_72) zl_1 ?_
        refine p_goto (cc3 c175_73) ?_
        refine p_lc (ls' := []) c175_77 rfl rfl ?_
        exact i_ri (cct c175_77 rfl) (by decide) h
      · have h := h.2 c
        refine p_lc (ls' := []) c175_76 rfl rfl ?_
        refine i_push (n := 0) (cct c175_76 rfl) zl_0 ?_
        exact i_ri (cct c175_77 rfl) (by decide) h
    · have h := h.2 c
      refine p_lc (ls' := []) c175_76 rfl rfl ?_
      refine i_push (n := 0) (cct c175_76 rfl) zl_0 ?_
      exact i_ri (cct c175_77 rfl) (by decide) h
  · have h := h.2 c
    refine p_lld (cc3 c175_19) rfl ?_
    refine p_push (cc3 c175_20) ?_
    refine p_lcmp (cc3 c175_21) ?_
    rw [← iz_of (lg_cmp w3 (0 : Int64))]
    refine i_if (c' := ((lg_cmp w3 (0 : Int64)).toInt) ≤ 0) (cc3 c175_22) (c_le0 (rg_t _)) (fun c => ?_) (fun c => ?_)
    · have h := h.1 c
      refine p_lld (cct c175_55 rfl) rfl ?_
      refine p_push (cc3 c175_56) ?_
      refine p_lcmp (cc3 c175_57) ?_
      rw [← iz_of (lg_cmp w3 (0 : Int64))]
      refine i_if (c' := ((lg_cmp w3 (0 : Int64)).toInt) = 0) (cc3 c175_58) (c_eq0 (rg_t _)) (fun c => ?_) (fun c => ?_)
      · have h := h.1 c
        refine p_ild (cc3 c175_61) rfl ?_
        refine p_ald (cc3 c175_63) rfl ?_
        refine n_geti hΦ (v := A 0 49) (cc3 c175_64) (ji := 49) rfl rfl ?_
        refine i_push (n := 1) (cc3 c175_67) zl_1 ?_
        obtain ⟨g1, h⟩ := h
        refine (fun _ : Rg ((A 0 49) - 1) => i_sub (cc3 c175_68) ?_) g1
        refine i_icmp (c' := x5 = ((A 0 49) - 1)) (cc3 c175_69) (iz_inj rr g1) (fun c => ?_) (fun c => ?_)
        · have h := h.1 c
          refine i_push (n := 1) (cc3 c175_72) zl_1 ?_
          refine p_goto (cc3 c175_73) ?_
          refine p_lc (ls' := []) c175_77 rfl rfl ?_
          exact i_ri (cct c175_77 rfl) (by decide) h
        · have h := h.2 c
          refine p_lc (ls' := []) c175_76 rfl rfl ?_
          refine i_push (n := 0) (cct c175_76 rfl) zl_0 ?_
          exact i_ri (cct c175_77 rfl) (by decide) h
      · have h := h.2 c
        refine p_lc (ls' := []) c175_76 rfl rfl ?_
        refine i_push (n := 0) (cct c175_76 rfl) zl_0 ?_
        exact i_ri (cct c175_77 rfl) (by decide) h
    · have h := h.2 c
      refine p_lld (cc3 c175_25) rfl ?_
      refine p_push (cc3 c175_26) ?_
      refine p_binL (cc3 c175_29) ?_
      refine p_ald (cc3 c175_30) rfl ?_
      refine pm_getp hΦ (cc3 c175_31) (c := 1) rfl (by decide) ?_
      refine p_ild (cc3 c175_34) rfl ?_
      obtain ⟨g1, h⟩ := h
      refine n_aldi hΦ (c := 1) (n := 160) (ni := 160) (cc3 c175_36) (by decide) rfl rfl rfl (by decide) g1 (v := A 1 x5) rfl ?_
      refine i_push (n := 96) (cc3 c175_37) zl_96 ?_
      obtain ⟨g2, h⟩ := h
      refine (fun _ : Rg ((A 1 x5) - 96) => i_sub (cc3 c175_39) ?_) g2
      refine p_i2l (cc3 c175_40) ?_
      refine p_lcmp (cc3 c175_41) ?_
      rw [← iz_of (lg_cmp (w3 &&& (31)) ((iz ((A 1 x5) - 96)).toInt64))]
      refine i_if (c' := ((lg_cmp (w3 &&& (31)) ((iz ((A 1 x5) - 96)).toInt64)).toInt) = 0) (cc3 c175_42) (c_eq0 (rg_t _)) (fun c => ?_) (fun c => ?_)
      · have h := h.1 c
        refine p_lld (cc3 c175_45) rfl ?_
        refine i_push (n := 5) (cc3 c175_46) zl_5 ?_
        refine p_shL (cc3 c175_47) ?_
        refine p_lst (ls' := [(3, .long (w3 >>> ((iz 5).toInt64 &&& 63))), (0, .ref m), (5, .int (iz x5))]) (cc3 c175_48) (by decide) rfl ?_
        obtain ⟨g3, h⟩ := h
        refine (fun _ : Rg (x5 - 1) => i_iinc (n := (-1)) (y := x5 - 1) (ls' := [(5, .int (iz (x5 - 1))), (3, .long (w3 >>> ((iz 5).toInt64 &&& 63))), (0, .ref m)]) (cc3 c175_49) (by decide) rfl zl_m1 (by first | rfl | omega) rfl ?_) g3
        refine p_goto (cc3 c175_52) ?_
        exact p_lc (ls' := [(0, .ref m), (3, .long (w3 >>> ((iz 5).toInt64 &&& 63))), (5, .int (iz (x5 - 1)))]) c175_10 rfl rfl h
      · have h := h.2 c
        refine p_lld (cct c175_55 rfl) rfl ?_
        refine p_push (cc3 c175_56) ?_
        refine p_lcmp (cc3 c175_57) ?_
        rw [← iz_of (lg_cmp w3 (0 : Int64))]
        refine i_if (c' := ((lg_cmp w3 (0 : Int64)).toInt) = 0) (cc3 c175_58) (c_eq0 (rg_t _)) (fun c => ?_) (fun c => ?_)
        · have h := h.1 c
          refine p_ild (cc3 c175_61) rfl ?_
          refine p_ald (cc3 c175_63) rfl ?_
          refine n_geti hΦ (v := A 0 49) (cc3 c175_64) (ji := 49) rfl rfl ?_
          refine i_push (n := 1) (cc3 c175_67) zl_1 ?_
          obtain ⟨g3, h⟩ := h
          refine (fun _ : Rg ((A 0 49) - 1) => i_sub (cc3 c175_68) ?_) g3
          refine i_icmp (c' := x5 = ((A 0 49) - 1)) (cc3 c175_69) (iz_inj rr g3) (fun c => ?_) (fun c => ?_)
          · have h := h.1 c
            refine i_push (n := 1) (cc3 c175_72) zl_1 ?_
            refine p_goto (cc3 c175_73) ?_
            refine p_lc (ls' := []) c175_77 rfl rfl ?_
            exact i_ri (cct c175_77 rfl) (by decide) h
          · have h := h.2 c
            refine p_lc (ls' := []) c175_76 rfl rfl ?_
            refine i_push (n := 0) (cct c175_76 rfl) zl_0 ?_
            exact i_ri (cct c175_77 rfl) (by decide) h
        · have h := h.2 c
          refine p_lc (ls' := []) c175_76 rfl rfl ?_
          refine i_push (n := 0) (cct c175_76 rfl) zl_0 ?_
          exact i_ri (cct c175_77 rfl) (by decide) h

theorem L175 {d : Nat} {Q : Option Value → xM → Prop} {m : Nat} {Φ : (Nat → Nat → Int32) → xM} (hΦ : MLaw m Φ) {A : Nat → Int → Int} (hR : RG A) (hb : 0 ≤ A 0 49 ∧ A 0 49 ≤ 160) (hT : TapeB (A 1)) :
    ∀ (f n : Nat) (k : Int), n < 2 ^ 63 → n < 32 ^ f → A 0 49 - 1 ≤ k → k < 160 → Q (some (.int (iz (bI (wq (A 1) (A 0 49) f n k = true))))) (Φ (mI A)) → wpE (xT 175) (xev xT d) Q (10, [(0, .ref m), (3, .long (i64 n)), (5, .int (iz k))], [], Φ (mI A)) := by
  intro f
  have hend0 : ∀ (f : Nat) (k : Int), Q (some (.int (iz (bI (wq (A 1) (A 0 49) f 0 k = true))))) (Φ (mI A)) → (k = A 0 49 - 1 → Q (some (.int (iz 1))) (Φ (mI A))) ∧ (¬ k = A 0 49 - 1 → Q (some (.int (iz 0))) (Φ (mI A))) := fun f k hQ => by
    have e : wq (A 1) (A 0 49) f 0 k = decide (k = A 0 49 - 1) := by cases f <;> simp [wq]
    rw [e] at hQ
    refine ⟨fun q => ?_, fun q => ?_⟩
    · rw [bI_t (by simpa using q)] at hQ; exact hQ
    · rw [bI_f (by simpa using q)] at hQ; exact hQ
  induction f with
  | zero =>
    intro n k hn hf h1 h2 hQ
    have e : n = 0 := by simpa using hf
    subst e
    obtain ⟨q1, q2⟩ := hend0 0 k hQ
    refine V175_10 (Nat.zero_le _) hΦ hR (by omega) ?_
    rw [i64_cmp0 hn, if_pos rfl]
    exact ⟨fun _ => ⟨fun _ => ⟨by omega, q1, q2⟩, fun h => absurd rfl h⟩, fun _ => ⟨fun _ => ⟨fun _ => ⟨by omega, q1, q2⟩, fun h => absurd rfl h⟩, fun h => absurd (Int.le_refl 0) h⟩⟩
  | succ f ih =>
    intro n k hn hf h1 h2 hQ
    by_cases e : n = 0
    · subst e
      obtain ⟨q1, q2⟩ := hend0 (f + 1) k hQ
      refine V175_10 (Nat.zero_le _) hΦ hR (by omega) ?_
      rw [i64_cmp0 hn, if_pos rfl]
      exact ⟨fun _ => ⟨fun _ => ⟨by omega, q1, q2⟩, fun h => absurd rfl h⟩, fun _ => ⟨fun _ => ⟨fun _ => ⟨by omega, q1, q2⟩, fun h => absurd rfl h⟩, fun h => absurd (Int.le_refl 0) h⟩⟩
    · unfold wq at hQ
      rw [if_neg e] at hQ
      have tb := hT k
      refine V175_10 (Nat.zero_le _) hΦ hR (by omega) ?_
      rw [i64_cmp0 hn, if_neg e]
      have z : ¬ (A 0 49 ≤ k ∧ A 1 k - 96 = ((n % 32 : Nat) : Int)) → Q (some (.int (iz 0))) (Φ (mI A)) := fun q => by
        rw [if_neg q, bI_f (by simp)] at hQ; exact hQ
      refine ⟨fun c => ⟨fun h => absurd h (by omega), fun _ => z (by omega)⟩, fun c => ⟨fun h => absurd h (by omega), fun _ => ⟨by omega, ?_⟩⟩⟩
      have tr : Rg (A 1 k - 96) := by omega
      refine ⟨tr, fun c2 => ⟨by omega, ?_⟩, fun c2 => ⟨fun h => absurd h (by omega), fun _ => z ?_⟩⟩
      · rw [i64_and hn, i64_eq (by omega) tr] at c2
        rw [i64_shr hn]
        rw [if_pos ⟨by omega, c2⟩] at hQ
        exact ih (n / 32) (k - 1) (by omega) (by rw [Nat.pow_succ] at hf; omega) (by omega) (by omega) hQ
      · rw [i64_and hn, i64_eq (by omega) tr] at c2
        exact fun q => c2 q.2
theorem S175 {d : Nat} (hd : 1 ≤ d) {m : Nat} {Φ : (Nat → Nat → Int32) → xM} (hΦ : MLaw m Φ) {A : Nat → Int → Int} (hR : RG A) {w1 : Int64} (hp : (0 ≤ Int64.toInt (w1)) ∧ (TapeB (A 1)) ∧ (0 ≤ A 0 49) ∧ (A 0 49 ≤ A 0 46) ∧ (A 0 46 ≤ 160)) : xev xT d 175 [.ref m, .long w1] (Φ (mI A)) (some (.int (iz (bI (m_isW A w1 = true))))) (Φ (mI A)) := by
  refine xev_i (D := 0) hd (Nat.le_of_ble_eq_true rfl) (fun d hd => V175_0 hd hΦ hR ?_)

  obtain ⟨h0, hT, h1, h2, h3⟩ := hp
  have e : w1 = i64 w1.toInt.toNat := by
    apply Int64.toInt_inj.mp
    rw [i64_t (by have := w1.toInt_lt; omega)]; omega
  refine ⟨by omega, ?_⟩
  rw [e]
  have hl := w1.toInt_lt
  exact L175 hΦ hR ⟨h1, by omega⟩ hT 13 w1.toInt.toNat (A 0 46 - 1) (by omega) (by omega) (by omega) (by omega) ⟨by unfold m_isW; rw [← e], rfl⟩
