theorem b8_of {z : Int32} : b8 z.toInt % 256 = z.toInt % 256 := by
  unfold b8
  rw [iz_of]
  have e : z.toInt8.toInt32.toInt = z.toInt.bmod 256 := by
    rw [Int8.toInt_toInt32, Int32.toInt_toInt8]
  rw [e]
  unfold Int.bmod
  dsimp only
  split <;> omega
theorem sh_a {w : Int64} {c : Int64} {s : Nat} (hc : (c.toBitVec.smod 64).toNat = s) : (w >>> c).toInt32.toInt % 256 = (w.toInt / 2 ^ s) % 256 := by
  rw [Int64.toInt_toInt32]
  have e1 : (w >>> c).toInt = w.toInt >>> s := by
    rw [← Int64.toInt_toBitVec, Int64.toBitVec_shiftRight]
    show (w.toBitVec.sshiftRight (c.toBitVec.smod 64).toNat).toInt = _
    rw [BitVec.toInt_sshiftRight, hc]
    rfl
  rw [e1, Int.shiftRight_eq_div_pow]
  have e2 : ∀ x : Int, x.bmod (2 ^ 32) % 256 = x % 256 := fun x => by
    unfold Int.bmod; dsimp only; split <;> omega
  rw [e2]
  simp
theorem sh_l {w : Int64} {c : UInt64} {s : Nat} (hc : (c.toBitVec % 64).toNat = s) : iand ((w.toUInt64 >>> c).toInt64.toInt32.toInt) 255 = ((w.toUInt64.toNat / 2 ^ s : Nat) : Int) % 256 := by
  unfold iand
  rw [iz_of]
  have e3 : ((w.toUInt64 >>> c).toInt64.toInt32 &&& iz 255).toBitVec.toNat = (w.toUInt64.toNat / 2 ^ s) % 256 := by
    rw [Int32.toBitVec_and, BitVec.toNat_and, show (iz 255).toBitVec.toNat = 2 ^ 8 - 1 by decide, Nat.and_two_pow_sub_one_eq_mod]
    have e4 : (w.toUInt64 >>> c).toInt64.toInt32.toBitVec.toNat = (w.toUInt64 >>> c).toNat % 2 ^ 32 := by
      show (BitVec.signExtend 32 (w.toUInt64 >>> c).toInt64.toBitVec).toNat = _
      rw [BitVec.signExtend_eq_setWidth_of_le _ (by decide), BitVec.toNat_setWidth]
      rfl
    rw [e4]
    have e5 : (w.toUInt64 >>> c).toNat = w.toUInt64.toNat / 2 ^ s := by
      rw [← UInt64.toNat_toBitVec, UInt64.toBitVec_shiftRight]
      show (w.toUInt64.toBitVec >>> (c.toBitVec % 64).toNat).toNat = _
      rw [BitVec.toNat_ushiftRight, hc, Nat.shiftRight_eq_div_pow]
      rfl
    rw [e5]
    omega
  rw [← Int32.toInt_toBitVec, BitVec.toInt_eq_toNat_of_lt (by rw [e3]; omega), e3]
  rfl
theorem by_k {w : Int64} {k : Int} (hk : 0 ≤ k ∧ k < 8) : iand ((w.toUInt64 >>> ((iz (8 * k)).toInt64.toUInt64 &&& Int64.toUInt64 63)).toInt64.toInt32.toInt) 255 = b8 ((w >>> ((iz (8 * k)).toInt64 &&& 63)).toInt32.toInt) % 256 := by
  rw [b8_of]
  have hn : (w.toUInt64.toNat : Int) = if 0 ≤ w.toInt then w.toInt else w.toInt + 18446744073709551616 := by
    have h1 : w.toInt = w.toBitVec.toInt := rfl
    have h2 : w.toUInt64.toNat = w.toBitVec.toNat := rfl
    rw [h1, h2, BitVec.toInt_eq_toNat_cond]
    have := w.toBitVec.isLt
    split <;> split <;> omega
  rcases (by omega : k = 0 ∨ k = 1 ∨ k = 2 ∨ k = 3 ∨ k = 4 ∨ k = 5 ∨ k = 6 ∨ k = 7) with c | c | c | c | c | c | c | c <;> subst c
  · rw [sh_l (s := 0) (by decide), sh_a (s := 0) (by decide)]; split at hn <;> omega
  · rw [sh_l (s := 8) (by decide), sh_a (s := 8) (by decide)]; split at hn <;> omega
  · rw [sh_l (s := 16) (by decide), sh_a (s := 16) (by decide)]; split at hn <;> omega
  · rw [sh_l (s := 24) (by decide), sh_a (s := 24) (by decide)]; split at hn <;> omega
  · rw [sh_l (s := 32) (by decide), sh_a (s := 32) (by decide)]; split at hn <;> omega
  · rw [sh_l (s := 40) (by decide), sh_a (s := 40) (by decide)]; split at hn <;> omega
  · rw [sh_l (s := 48) (by decide), sh_a (s := 48) (by decide)]; split at hn <;> omega
  · rw [sh_l (s := 56) (by decide), sh_a (s := 56) (by decide)]; split at hn <;> omega
theorem b8_r {x : Int} : -128 ≤ b8 x ∧ b8 x ≤ 127 := by
  have e : b8 x = (iz x).toInt.bmod 256 := by
    unfold b8
    rw [Int8.toInt_toInt32, Int32.toInt_toInt8]
  rw [e]
  unfold Int.bmod
  dsimp only
  split <;> omega
theorem m_fd_c {M : Nat → Int → Int} {w : Int64} {c : Nat} (h0 : ¬ c = 0) (h1 : ¬ c = 1) : ∀ k : Nat, m_fd M w k c = M c
  | 0 => rfl
  | k + 1 => by
    show UA (UA (m_fd M w k) 1 (M 0 1 + k) (m_by w k)) 0 1 (M 0 1 + k + 1) c = _
    rw [UA_n h0, UA_n h1]
    exact m_fd_c h0 h1 k
theorem m_fd_0 {M : Nat → Int → Int} {w : Int64} {j : Int} (h : ¬ j = 1) : ∀ k : Nat, m_fd M w k 0 j = M 0 j
  | 0 => rfl
  | k + 1 => by
    show UA (UA (m_fd M w k) 1 (M 0 1 + k) (m_by w k)) 0 1 (M 0 1 + k + 1) 0 j = _
    rw [UA_j h, UA_n (by decide)]
    exact m_fd_0 h k
theorem m_fd_tb {M : Nat → Int → Int} {w : Int64} (h : TapeB (M 1)) : ∀ k : Nat, TapeB (m_fd M w k 1)
  | 0 => h
  | k + 1 => by
    intro j
    show -128 ≤ UA (UA (m_fd M w k) 1 (M 0 1 + k) (m_by w k)) 0 1 (M 0 1 + k + 1) 1 j ∧ UA (UA (m_fd M w k) 1 (M 0 1 + k) (m_by w k)) 0 1 (M 0 1 + k + 1) 1 j ≤ 127
    rw [UA_n (by decide)]
    by_cases e : j = M 0 1 + k
    · subst e; rw [UA_eq]; exact b8_r
    · rw [UA_j e]; exact m_fd_tb h k j
theorem TpR.put {A M : Nat → Int → Int} {w : Int64} {k : Nat} {v : Int} (h : TpR A (m_fd M w k 1)) (e : A 1 1 = M 0 1 + k) (hk : M 0 1 + k < 160) (hv : v = m_by w k % 256) : TpR (k_put A v) (m_fd M w (k + 1) 1) ∧ k_put A v 1 1 = M 0 1 + k + 1 ∧ ∀ c, ¬ c = 1 → ¬ c = 2 → k_put A v c = A c := by
  obtain ⟨h1, h2, h3⟩ := h
  unfold k_put
  rw [if_pos (by omega)]
  have e1 : UA (UA A 2 (A 1 1) v) 1 1 (A 1 1 + 1) 1 1 = M 0 1 + k + 1 := by rw [UA_eq, e]
  have e2 : UA (UA A 2 (A 1 1) v) 1 1 (A 1 1 + 1) 2 = UA A 2 (A 1 1) v 2 := UA_n (by decide)
  refine ⟨⟨by rw [e1]; omega, ?_, fun i i0 i1 => ?_⟩, e1, fun c q1 q2 => by rw [UA_n q1, UA_n q2]⟩
  · intro j
    show -128 ≤ UA (UA (m_fd M w k) 1 (M 0 1 + k) (m_by w k)) 0 1 (M 0 1 + k + 1) 1 j ∧ UA (UA (m_fd M w k) 1 (M 0 1 + k) (m_by w k)) 0 1 (M 0 1 + k + 1) 1 j ≤ 127
    rw [UA_n (by decide)]
    by_cases c : j = M 0 1 + k
    · subst c; rw [UA_eq]; exact b8_r
    · rw [UA_j c]; exact h2 j
  · rw [e1] at i1
    rw [e2]
    show _ = UA (UA (m_fd M w k) 1 (M 0 1 + k) (m_by w k)) 0 1 (M 0 1 + k + 1) 1 i % 256
    rw [UA_n (show ¬ 1 = 0 by decide)]
    by_cases c : i = M 0 1 + k
    · subst c
      rw [UA_eq, e, UA_eq]
      exact hv
    · rw [UA_j c, UA_j (by omega)]
      exact h3 i i0 (by omega)
def FeedP (M A : Nat → Int → Int) (x : Int) (w : Int64) (r : Int) (A' : Nat → Int → Int) : Prop := r = m_feed_r M x ∧ (∀ c, ¬ c = 1 → ¬ c = 2 → A' c = A c) ∧ A' 1 1 = m_feed_n M x w 0 1 ∧ TpR A' (m_feed_n M x w 1)
theorem V37_0 {d : Nat} (hd : 1 ≤ d) {Q : Option Value → xM → Prop} {W : gW} (hW : HW W) {A : Nat → Int → Int} {P : Nat → Int → Nat} (hR : RG A) (hT : Stat W P) (hG : GL W) {x1 : Int} {w2 : Int64} (rr : Rg x1) (h : (((x1 < 1) → Q (some (.int (iz (-2)))) (Wm W A P)) ∧ (¬ (x1 < 1) → (((x1 ≤ 8) → (Rg ((A 1 1) + x1)) ∧ (((((A 1 1) + x1) ≤ 160) → wpE (xT 37) (xev xT d) Q (35, [(0, .ref (lo W 0)), (1, .int (iz x1)), (2, .long w2), (4, .int (iz 0))], [], Wm W A P)) ∧ (¬ (((A 1 1) + x1) ≤ 160) → Q (some (.int (iz (-4)))) (Wm W A P)))) ∧ (¬ (x1 ≤ 8) → Q (some (.int (iz (-2)))) (Wm W A P)))))) : wpE (xT 37) (xev xT d) Q (0, [(0, .ref (lo W 0)), (1, .int (iz x1)), (2, .long w2)], [], Wm W A P) := by
  refine p_ild (cc3 c37_0) rfl ?_
  refine i_push (n := 1) (cc3 c37_1) zl_1 ?_
  refine i_icmp (c' := x1 < 1) (cc3 c37_2) (iz_lt rr (by decide : Rg (1 : Int))) (fun c => ?_) (fun c => ?_)
  · have h := h.1 c
    refine p_lc (ls' := []) c37_11 rfl rfl ?_
    refine i_push (n := (-2)) (cct c37_11 rfl) zl_m2 ?_
    exact p_ri (cc3 c37_13) trivial h
  · have h := h.2 c
    refine p_ild (cc3 c37_5) rfl ?_
    refine i_push (n := 8) (cc3 c37_6) zl_8 ?_
    refine i_icmp (c' := x1 ≤ 8) (cc3 c37_8) (iz_le rr (by decide : Rg (8 : Int))) (fun c => ?_) (fun c => ?_)
    · have h := h.1 c
      refine p_ald (cc3 c37_14) rfl ?_
      refine w_getp hW hT.1 (b := 1) (cc3 c37_15) (st_k hT 0 12 (by decide)) (ji := 0) rfl (st_p hT 0 0 1 (by decide)) ?_
      refine w_geti hW (v := A 1 1) (cc3 c37_18) (st_k hT 1 9 (by decide)) (ji := 1) rfl rfl ?_
      refine p_ild (cc3 c37_21) rfl ?_
      obtain ⟨g1, h⟩ := h
      refine (fun _ : Rg ((A 1 1) + x1) => i_add (cc3 c37_22) ?_) g1
      refine i_push (n := 160) (cc3 c37_23) zl_160 ?_
      refine i_icmp (c' := ((A 1 1) + x1) ≤ 160) (cc3 c37_26) (iz_le g1 (by decide : Rg (160 : Int))) (fun c => ?_) (fun c => ?_)
      · have h := h.1 c
        refine i_push (n := 0) (cc3 c37_32) zl_0 ?_
        refine p_ist (ls' := [(4, .int (iz 0)), (0, .ref (lo W 0)), (1, .int (iz x1)), (2, .long w2)]) (cc3 c37_33) (by decide) rfl ?_
        exact p_lc (ls' := [(0, .ref (lo W 0)), (1, .int (iz x1)), (2, .long w2), (4, .int (iz 0))]) c37_35 rfl rfl h
      · have h := h.2 c
        refine i_push (n := (-4)) (cc3 c37_29) zl_m4 ?_
        exact p_ri (cc3 c37_31) trivial h
    · have h := h.2 c
      refine p_lc (ls' := []) c37_11 rfl rfl ?_
      refine i_push (n := (-2)) (cct c37_11 rfl) zl_m2 ?_
      exact p_ri (cc3 c37_13) trivial h
theorem V37_35 {d : Nat} (hd : 1 ≤ d) {Q : Option Value → xM → Prop} {W : gW} (hW : HW W) {A : Nat → Int → Int} {P : Nat → Int → Nat} (hR : RG A) (hT : Stat W P) (hG : GL W) {x1 x4 : Int} {w2 : Int64} (rr : Rg x1 ∧ Rg x4) (h : (((x1 ≤ x4) → Q (some (.int (iz (A 1 1)))) (Wm W A P)) ∧ (¬ (x1 ≤ x4) → (Rg (8 * x4)) ∧ (0 ≤ A 1 1) ∧ (Rg (x4 + 1)) ∧ wpE (xT 37) (xev xT d) Q (35, [(0, .ref (lo W 0)), (1, .int (iz x1)), (2, .long w2), (4, .int (iz (x4 + 1)))], [], Wm W (k_put A (iand (((w2.toUInt64 >>> ((iz (8 * x4)).toInt64.toUInt64 &&& Int64.toUInt64 63)).toInt64).toInt32.toInt) 255)) P)))) : wpE (xT 37) (xev xT d) Q (35, [(0, .ref (lo W 0)), (1, .int (iz x1)), (2, .long w2), (4, .int (iz x4))], [], Wm W A P) := by
  refine p_ild (cct c37_35 rfl) rfl ?_
  refine p_ild (cc3 c37_37) rfl ?_
  refine i_icmp (c' := x1 ≤ x4) (cc3 c37_38) (iz_le rr.1 rr.2) (fun c => ?_) (fun c => ?_)
  · have h := h.1 c
    refine p_ald (cc3 c37_66) rfl ?_
    refine w_getp hW hT.1 (b := 1) (cc3 c37_67) (st_k hT 0 12 (by decide)) (ji := 0) rfl (st_p hT 0 0 1 (by decide)) ?_
    refine w_geti hW (v := A 1 1) (cc3 c37_70) (st_k hT 1 9 (by decide)) (ji := 1) rfl rfl ?_
    exact p_ri (cc3 c37_73) trivial h
  · have h := h.2 c
    refine p_ald (cc3 c37_41) rfl ?_
    refine w_getp hW hT.1 (b := 1) (cc3 c37_42) (st_k hT 0 12 (by decide)) (ji := 0) rfl (st_p hT 0 0 1 (by decide)) ?_
    refine p_lld (cc3 c37_45) rfl ?_
    refine i_push (n := 8) (cc3 c37_46) zl_8 ?_
    refine p_ild (cc3 c37_48) rfl ?_
    obtain ⟨g1, h⟩ := h
    refine (fun _ : Rg (8 * x4) => i_mul (cc3 c37_50) ?_) g1
    refine p_shL (cc3 c37_51) ?_
    refine p_l2i (cc3 c37_52) ?_
    rw [← iz_of (((w2.toUInt64 >>> ((iz (8 * x4)).toInt64.toUInt64 &&& Int64.toUInt64 63)).toInt64).toInt32)]
    refine i_push (n := 255) (cc3 c37_53) zl_255 ?_
    refine i_op (z := iand (((w2.toUInt64 >>> ((iz (8 * x4)).toInt64.toUInt64 &&& Int64.toUInt64 63)).toInt64).toInt32.toInt) 255) (cc3 c37_56) (iz_of _).symm ?_
    obtain ⟨g2, h⟩ := h
    refine p_callV (cc3 c37_57) (Nat.le_of_ble_eq_true rfl) rfl rfl (Nat.le_of_ble_eq_true rfl) (wk_kd hW (by decide) (st_k hT 1 9 (by decide))) (S15 (Nat.le_trans (by decide) hd) hW hR hT hG rg_iand g2) ?_
    obtain ⟨g3, h⟩ := h
    refine (fun _ : Rg (x4 + 1) => i_iinc (n := 1) (y := x4 + 1) (ls' := [(4, .int (iz (x4 + 1))), (0, .ref (lo W 0)), (1, .int (iz x1)), (2, .long w2)]) (cc3 c37_60) (by decide) rfl zl_1 (by first | rfl | omega) rfl ?_) g3
    refine p_goto (cc3 c37_63) ?_
    exact p_lc (ls' := [(0, .ref (lo W 0)), (1, .int (iz x1)), (2, .long w2), (4, .int (iz (x4 + 1)))]) c37_35 rfl rfl h
theorem L37 {d : Nat} (hd : 1 ≤ d) {Q : Option Value → xM → Prop} {W : gW} (hW : HW W) {P : Nat → Int → Nat} (hT : Stat W P) (hG : GL W) {n : Nat} (hn : n ≤ 8) {w2 : Int64} {A0 M : Nat → Int → Int} (h1 : 0 ≤ M 0 1) (hM : M 0 1 + n ≤ 160)
    (hQ : ∀ A', RG A' → (∀ c, ¬ c = 1 → ¬ c = 2 → A' c = A0 c) → A' 1 1 = M 0 1 + n → TpR A' (m_fd M w2 n 1) → Q (some (.int (iz (A' 1 1)))) (Wm W A' P)) : ∀ (r k : Nat) (A : Nat → Int → Int), k + r = n → RG A → (∀ c, ¬ c = 1 → ¬ c = 2 → A c = A0 c) → A 1 1 = M 0 1 + k → TpR A (m_fd M w2 k 1) → wpE (xT 37) (xev xT d) Q (35, [(0, .ref (lo W 0)), (1, .int (iz (n : Int))), (2, .long w2), (4, .int (iz (k : Int)))], [], Wm W A P) := by
  intro r
  induction r with
  | zero =>
    intro k A hk hR hF e hT2
    have : k = n := by omega
    subst this
    exact V37_35 hd hW hR hT hG ⟨by constructor <;> omega, by constructor <;> omega⟩ ⟨fun _ => hQ A hR hF e hT2, fun z => absurd (Int.le_refl _) z⟩
  | succ r ih =>
    intro k A hk hR hF e hT2
    obtain ⟨p1, p2, p3⟩ := hT2.put (v := iand (((w2.toUInt64 >>> ((iz (8 * (k : Int))).toInt64.toUInt64 &&& Int64.toUInt64 63)).toInt64).toInt32.toInt) 255) e (by omega) (by_k (by omega))
    refine V37_35 hd hW hR hT hG ⟨by constructor <;> omega, by constructor <;> omega⟩ ⟨fun z => absurd z (by omega), fun _ => ⟨by constructor <;> omega, by omega, by constructor <;> omega, ?_⟩⟩
    exact ih (k + 1) _ (by omega) (rg_kput hR (rg_t _) (by omega)) (fun c q1 q2 => by rw [p3 c q1 q2]; exact hF c q1 q2) (by rw [p2]; omega) p1
theorem S37 {d : Nat} (hd : 2 ≤ d) {W : gW} (hW : HW W) {A : Nat → Int → Int} {P : Nat → Int → Nat} (hR : RG A) (hT : Stat W P) (hG : GL W) {x1 : Int} {w2 : Int64} (rr : Rg x1) (hp : (RelA W P A)) : ∃ (r : Int) (A' : Nat → Int → Int), xev xT d 37 [.ref (lo W 0), .int (iz x1), .long w2] (Wm W A P) (some (.int (iz r))) (Wm W A' P) ∧ Rg r ∧ RG A' ∧ (FeedP (mo A) A x1 w2 r A') := by
  refine xev_g (i := 37) (as := [.ref (lo W 0), .int (iz x1), .long w2]) (σ := Wm W A P) (Q := fun r_ σ_ => ∃ (r : Int) (A' : Nat → Int → Int), r_ = (some (.int (iz r))) ∧ σ_ = Wm W A' P ∧ Rg r ∧ RG A' ∧ (FeedP (mo A) A x1 w2 r A')) (D := 1) hd (Nat.le_of_ble_eq_true rfl) (fun r_ σ_ he hq => ?_) (fun d hd => V37_0 hd hW hR hT hG rr ?_)
  · obtain ⟨r, A', rfl, rfl, hq⟩ := hq
    exact ⟨r, A', he, hq⟩

  obtain ⟨hn1, hn2, hn3, hn4, hn5, hn6⟩ := hp.cn
  have ht := hp.tp
  have out2 : ¬ (1 ≤ x1 ∧ x1 ≤ 8) → ∃ (r : Int) (A' : Nat → Int → Int), some (Value.int (iz (-2))) = some (Value.int (iz r)) ∧ Wm W A P = Wm W A' P ∧ Rg r ∧ RG A' ∧ FeedP (mo A) A x1 w2 r A' := fun z => by
    refine ⟨-2, A, rfl, rfl, by decide, hR, ?_⟩
    unfold FeedP m_feed_r m_feed_n
    rw [if_neg z, if_neg (fun w => z w.1)]
    exact ⟨rfl, fun _ _ _ => rfl, hn6, ht⟩
  refine ⟨fun z => out2 (by omega), fun z => ⟨fun z2 => ⟨by have := ht.1; constructor <;> omega, fun z3 => ?_, fun z3 => ?_⟩, fun z2 => out2 (by omega)⟩⟩
  · obtain ⟨n, rfl⟩ := Int.eq_ofNat_of_zero_le (show 0 ≤ x1 by omega)
    have := ht.1
    refine L37 hd hW hT hG (n := n) (by omega) (A0 := A) (M := mo A) (by omega) (by omega) (fun A' RA' hF e hT2 => ?_) n 0 A (by omega) hR (fun _ _ _ => rfl) (by omega) ht
    refine ⟨_, A', rfl, rfl, RA' _ _, RA', ?_⟩
    unfold FeedP m_feed_r m_feed_n
    rw [if_pos (by omega), if_pos (by omega), if_pos ⟨by omega, by omega⟩, Int.toNat_natCast, m_fd_t]
    exact ⟨e, hF, e, hT2⟩
  · refine ⟨-4, A, rfl, rfl, by decide, hR, ?_⟩
    unfold FeedP m_feed_r m_feed_n
    rw [if_pos (by omega), if_neg (by omega), if_neg (fun w => z3 (by omega))]
    exact ⟨rfl, fun _ _ _ => rfl, hn6, ht⟩
theorem cl_0 {W : gW} {P : Nat → Int → Nat} {A : Nat → Int → Int} (h : Sta W P A) {x1 : Int} {w2 : Int64} (rr : Rg x1) : Cll 37 128 [.int (iz x1), .long w2] W P A := by
  have hr := h.2.2.2.2
  obtain ⟨r, A', hx, r1, r2, r3, r4, r5, r6⟩ := S37 (d := 190) (by decide) (w2 := w2) h.1 h.2.1 h.2.2.1 h.2.2.2.1 rr hr
  have ht := hr.tp.1
  obtain ⟨hn1, hn2, hn3, hn4, hn5, hn6⟩ := hr.cn
  have hb : 0 ≤ mo A 0 1 ∧ mo A 0 1 ≤ 160 := by omega
  have hm := S128 (d := 190) (w2 := w2) (by decide) (h.ml2 (W := W) h.2.2.1.1 hr.mod A') (rg_mo h.2.1) rr hb
  have mc : ∀ c, ¬ c = 0 → ¬ c = 1 → m_feed_n (mo A) x1 w2 c = mo A c := fun c q0 q1 => by
    unfold m_feed_n
    split
    · exact m_fd_c q0 q1 _
    · rfl
  have m0 : ∀ j : Int, ¬ j = 1 → m_feed_n (mo A) x1 w2 0 j = mo A 0 j := fun j q => by
    unfold m_feed_n
    split
    · exact m_fd_0 q _
    · rfl
  have hrg : RG (m_feed_n (mo A) x1 w2) := by
    unfold m_feed_n
    split
    · rename_i c
      exact m_fd_rg (rg_mo h.2.1) hb _ (by omega)
    · exact rg_mo h.2.1
  rw [r3] at hx
  refine stp_m3 h hx (fun c hc => r4 c (by omega) (by omega)) hm r2 hrg (hr.g0 (fun _ _ _ => rfl) (fun c q1 q2 => r4 c (by omega) (by omega)) (fun c q1 q2 _ _ => mc c (by omega) (by omega)) ⟨m0 2 (by decide), m0 42 (by decide), m0 8 (by decide), m0 13 (by decide)⟩ (by rw [r4 0 (by decide) (by decide)]; exact ⟨rfl, rfl, rfl⟩) ?_ r6 (by rw [r4 14 (by decide) (by decide), mc 41 (by decide) (by decide)]; exact hr.cu) (by rw [m0 43 (by decide), m0 42 (by decide)]; exact hr.ok.2.2.2.2.2))
  unfold RCn
  rw [r4 0 (by decide) (by decide), r5, m0 2 (by decide), m0 8 (by decide), m0 13 (by decide), m0 42 (by decide), m0 43 (by decide)]
  exact ⟨hn1, hn2, hn3, hn4, hn5, rfl⟩
