abbrev k_blk (A : Nat → Int → Int) (k b s : Nat) (p t : Int) : Prop := A b 2 < A 8 3 + t * A s 1 + A k 7 ∨ k_isF A b (A 10 p + t * A s 1) (A k 6)
def fmid (A : Nat → Int → Int) (k s : Nat) (p t : Int) (g : Int → Int) : Nat → Int
  | 0 => -1
  | m + 1 => if k_cf A k s p ((m : Int) + 1) then k_fewer (fmid A k s p t g m) (g (t + ykl A k p ((m : Int) + 1))) else fmid A k s p t g m
/-- the table, without a table: r pleats behind pleat p -/
def KT (A : Nat → Int → Int) (k b s : Nat) : Nat → Int → Int → Int
  | 0, p, t => if k_blk A k b s p t then -1 else k_und A k b s t 4 (-1)
  | r + 1, p, t => if k_blk A k b s p t then -1 else fmid A k s p t (KT A k b s r (p + 1)) 4
theorem fmid_c {A : Nat → Int → Int} {k s : Nat} {p t : Int} {g g' : Int → Int} : ∀ r : Nat, r ≤ 4 → (∀ m : Int, 1 ≤ m → m ≤ 4 → g (t + ykl A k p m) = g' (t + ykl A k p m)) → fmid A k s p t g r = fmid A k s p t g' r
  | 0, _, _ => rfl
  | r + 1, hr, h => by
    have ih := fmid_c (A := A) (k := k) (s := s) r (by omega) h
    show (if k_cf A k s p ((r : Int) + 1) then k_fewer (fmid A k s p t g r) (g (t + ykl A k p ((r : Int) + 1))) else fmid A k s p t g r) = (if k_cf A k s p ((r : Int) + 1) then k_fewer (fmid A k s p t g' r) (g' (t + ykl A k p ((r : Int) + 1))) else fmid A k s p t g' r)
    rw [ih, h ((r : Int) + 1) (by omega) (by omega)]
theorem mid_f {A : Nat → Int → Int} {k s : Nat} {p t : Int} : ∀ r : Nat, k_mid A k s p t r = fmid A k s p t (k_kept A (p + 1)) r
  | 0 => rfl
  | r + 1 => by
    show (if k_cf A k s p ((r : Int) + 1) then k_fewer (k_mid A k s p t r) (k_kept A (p + 1) (t + ykl A k p ((r : Int) + 1))) else k_mid A k s p t r) = (if k_cf A k s p ((r : Int) + 1) then k_fewer (fmid A k s p t (k_kept A (p + 1)) r) (k_kept A (p + 1) (t + ykl A k p ((r : Int) + 1))) else fmid A k s p t (k_kept A (p + 1)) r)
    rw [mid_f r]
theorem fmid_r {A : Nat → Int → Int} {k s : Nat} {p t M : Int} {g : Int → Int} (hg : ∀ m : Int, 1 ≤ m → m ≤ 4 → g (t + ykl A k p m) = -1 ∨ (t ≤ g (t + ykl A k p m) ∧ g (t + ykl A k p m) ≤ M)) : ∀ r : Nat, r ≤ 4 → fmid A k s p t g r = -1 ∨ (t ≤ fmid A k s p t g r ∧ fmid A k s p t g r ≤ M)
  | 0, _ => Or.inl rfl
  | r + 1, hr => by
    have ih := fmid_r (s := s) hg r (by omega)
    have h := hg ((r : Int) + 1) (by omega) (by omega)
    show (if k_cf A k s p ((r : Int) + 1) then k_fewer (fmid A k s p t g r) (g (t + ykl A k p ((r : Int) + 1))) else fmid A k s p t g r) = -1 ∨ (t ≤ (if k_cf A k s p ((r : Int) + 1) then k_fewer (fmid A k s p t g r) (g (t + ykl A k p ((r : Int) + 1))) else fmid A k s p t g r) ∧ (if k_cf A k s p ((r : Int) + 1) then k_fewer (fmid A k s p t g r) (g (t + ykl A k p ((r : Int) + 1))) else fmid A k s p t g r) ≤ M)
    split
    · unfold k_fewer; (repeat' split) <;> omega
    · exact ih
theorem KT_r {A : Nat → Int → Int} {k b s : Nat} : ∀ (r : Nat) (p t : Int), KT A k b s r p t = -1 ∨ (t ≤ KT A k b s r p t ∧ KT A k b s r p t ≤ t + 9 * r + 3)
  | 0, p, t => by
    have h := k_und_r (A := A) (k := k) (b := b) (s := s) (t := t) 4 (-1)
    unfold KT
    split
    · exact Or.inl rfl
    · omega
  | r + 1, p, t => by
    have h := fmid_r (A := A) (k := k) (s := s) (p := p) (t := t) (M := t + 9 * ((r + 1 : Nat) : Int) + 3) (g := KT A k b s r (p + 1)) (fun m h1 h4 => by
      have h9 := ykl_b (A := A) (k := k) (p := p) (m := m) ⟨h1, h4⟩
      have := KT_r (A := A) (k := k) (b := b) (s := s) r (p + 1) (t + ykl A k p m)
      omega) 4 (Nat.le_refl 4)
    unfold KT
    split
    · exact Or.inl rfl
    · exact h
/-- what the layer's functions read -/
def LyE (A A' : Nat → Int → Int) : Prop := (∀ c, 29 ≤ c → A' c = A c) ∧ A' 8 3 = A 8 3 ∧ A' 10 = A 10 ∧ A' 8 2 = A 8 2
theorem KT_c {A A' : Nat → Int → Int} {k b s : Nat} (h : LyE A A') (hk : 29 ≤ k ∧ 29 ≤ b ∧ 29 ≤ s) : ∀ (r : Nat) (p t : Int), KT A' k b s r p t = KT A k b s r p t := by
  obtain ⟨h1, h2, h3, h4⟩ := h
  have ek := h1 k hk.1
  have eb := h1 b hk.2.1
  have eb1 := h1 (b + 1) (by omega)
  have es := h1 s hk.2.2
  have eu : ∀ (r : Nat) (t x : Int), k_und A' k b s t r x = k_und A k b s t r x := by
    intro r
    induction r with
    | zero => intro t x; rfl
    | succ r ih =>
      intro t x
      unfold k_und k_ucb k_isF
      rw [ek, eb, eb1, es, h2, ih]
  have ef : ∀ (p t : Int) (g : Int → Int) (m : Nat), fmid A' k s p t g m = fmid A k s p t g m := by
    intro p t g m
    induction m with
    | zero => rfl
    | succ m ih =>
      have e1 : ∀ p m, ykl A' k p m = ykl A k p m := fun p m => by unfold ykl; rw [ek]
      have e2 : ∀ p, ykw A' k p = ykw A k p := fun p => ykw_c ek
      unfold fmid k_cf
      rw [e1, e2, ek, es, ih]
  intro r
  induction r with
  | zero =>
    intro p t
    unfold KT k_blk k_isF
    rw [ek, eb, eb1, es, h2, h3, eu]
  | succ r ih =>
    intro p t
    have e : KT A' k b s r (p + 1) = KT A k b s r (p + 1) := funext fun t' => ih (p + 1) t'
    unfold KT k_blk k_isF
    rw [ek, eb, eb1, es, h2, h3, e, ef]
theorem ykl_le {A : Nat → Int → Int} {k : Nat} {p m : Int} (h : 1 ≤ m ∧ m ≤ 4) (h4 : 4 ≤ A k 4) : ykl A k p m ≤ ykl A k 0 4 := by
  unfold ykl
  (repeat' split) <;> omega
/-- the rows of the table from pleat p0 on -/
def TIn (A : Nat → Int → Int) (k b s : Nat) (p0 : Int) : Prop := ∀ p t : Int, p0 ≤ p → 0 ≤ p → p < A k 4 → 0 ≤ t → t ≤ 3 + p * ykl A k 0 4 → A 9 (p * 211 + t) = KT A k b s (A k 4 - 1 - p).toNat p t
theorem few_K {A : Nat → Int → Int} {k b s : Nat} {p t : Int} (h4 : 4 ≤ A k 4 ∧ A k 4 ≤ 24) (hp : 0 ≤ p ∧ p < A k 4) (ht : 0 ≤ t ∧ t ≤ 3 + p * ykl A k 0 4) (hT : TIn A k b s (p + 1)) : k_few A k b s p t = KT A k b s (A k 4 - 1 - p).toNat p t := by
  have h9 := ykl_b (A := A) (k := k) (p := 0) (m := 4) (by decide)
  unfold k_few k_usd
  by_cases c : p = A k 4 - 1
  · rw [show (A k 4 - 1 - p).toNat = 0 by omega]
    unfold KT k_blk
    rw [if_pos c]
  · rw [show (A k 4 - 1 - p).toNat = (A k 4 - 1 - (p + 1)).toNat + 1 by omega]
    unfold KT k_blk
    rw [if_neg c, mid_f]
    rw [fmid_c 4 (Nat.le_refl 4) (fun m m1 m4 => ?_)]
    have hm := ykl_b (A := A) (k := k) (p := p) (m := m) ⟨m1, m4⟩
    have hl := ykl_le (A := A) (k := k) (p := p) ⟨m1, m4⟩ h4.1
    have e1 : (p + 1) * ykl A k 0 4 = p * ykl A k 0 4 + ykl A k 0 4 := by rw [Int.add_mul, Int.one_mul]
    have e2 : p * ykl A k 0 4 ≤ 22 * 9 := Int.mul_le_mul (by omega) h9.2 (by omega) (by decide)
    unfold k_kept
    rw [if_pos ⟨by omega, by omega, by omega⟩]
    exact hT (p + 1) _ (Int.le_refl _) (by omega) (by omega) (by omega) (by omega)
def ksr (A : Nat → Int → Int) (k b s : Nat) : Nat → Int
  | 0 => -1
  | j + 1 => if ¬ k_isF A b (A 8 2 + j * A s 1) (A k 7) then k_fewer (ksr A k b s j) (KT A k b s ((A k 4).toNat - 1) 0 j) else ksr A k b s j
theorem ksr_r {A : Nat → Int → Int} {k b s : Nat} (h4 : 4 ≤ A k 4 ∧ A k 4 ≤ 24) : ∀ j : Nat, j ≤ 4 → ksr A k b s j = -1 ∨ (0 ≤ ksr A k b s j ∧ ksr A k b s j ≤ 214)
  | 0, _ => Or.inl rfl
  | j + 1, hj => by
    have ih := ksr_r (b := b) (s := s) h4 j (by omega)
    have h := KT_r (A := A) (k := k) (b := b) (s := s) ((A k 4).toNat - 1) 0 j
    have e : (((A k 4).toNat - 1 : Nat) : Int) ≤ 23 := by omega
    show (if ¬ k_isF A b (A 8 2 + j * A s 1) (A k 7) then k_fewer (ksr A k b s j) (KT A k b s ((A k 4).toNat - 1) 0 j) else ksr A k b s j) = -1 ∨ (0 ≤ (if ¬ k_isF A b (A 8 2 + j * A s 1) (A k 7) then k_fewer (ksr A k b s j) (KT A k b s ((A k 4).toNat - 1) 0 j) else ksr A k b s j) ∧ (if ¬ k_isF A b (A 8 2 + j * A s 1) (A k 7) then k_fewer (ksr A k b s j) (KT A k b s ((A k 4).toNat - 1) 0 j) else ksr A k b s j) ≤ 214)
    split
    · unfold k_fewer; (repeat' split) <;> omega
    · exact ih
theorem ksr_c {A A' : Nat → Int → Int} {k b s : Nat} (h : LyE A A') (hk : 29 ≤ k ∧ 29 ≤ b ∧ 29 ≤ s) : ∀ j : Nat, ksr A' k b s j = ksr A k b s j := by
  intro j
  induction j with
  | zero => rfl
  | succ j ih =>
    obtain ⟨h1, h2, h3, h4⟩ := h
    have e := KT_c (b := b) ⟨h1, h2, h3, h4⟩ hk
    unfold ksr k_isF
    rw [h1 k hk.1, h1 b hk.2.1, h1 (b + 1) (by omega), h1 s hk.2.2, h4, ih, e]
/-- what search leaves in A', of the kilt k on the bolt b of the sett s -/
def LyS (A A' : Nat → Int → Int) (k b s : Nat) : Prop := Fo 8 [9, 10] [2, 3, 4] A A' ∧ A' 8 2 = yk0 A k s ∧ A' 8 3 = yku A k s ∧ (∀ p : Nat, (p : Int) < A k 4 → A' 10 p = ykf A k s p) ∧ TIn A' k b s 0 ∧ A' 8 4 = ksr A' k b s 4
theorem V69_0 {d : Nat} (hd : 4 ≤ d) {Q : Option Value → xM → Prop} {W : gW} (hW : HW W) {A : Nat → Int → Int} {P : Nat → Int → Nat} (hR : RG A) (hT : Stat W P) (hG : GL W) {a1 a2 : Nat} (h : (NZ W a1) ∧ (NZ W a2) ∧ (gK W a2 = 1) ∧ (¬ (UP (UP P 8 5 (a1 + 1)) 8 6 (a2 + 1)) a2 0 = 0) ∧ (NZ W ((UP (UP P 8 5 (a1 + 1)) 8 6 (a2 + 1)) a2 0 - 1)) ∧ (LyC W (UP (UP (UP P 8 5 (a1 + 1)) 8 6 (a2 + 1)) 8 7 (((UP (UP P 8 5 (a1 + 1)) 8 6 (a2 + 1)) a2 0 - 1) + 1)) A) ∧ (∀ (A_1 : Nat → Int → Int), RG A_1 → (Fo 8 [10] [2, 3] A A_1 ∧ A_1 8 2 = yk0 A ((UP (UP (UP P 8 5 (a1 + 1)) 8 6 (a2 + 1)) 8 7 (((UP (UP P 8 5 (a1 + 1)) 8 6 (a2 + 1)) a2 0 - 1) + 1)) 8 5 - 1) ((UP (UP (UP P 8 5 (a1 + 1)) 8 6 (a2 + 1)) 8 7 (((UP (UP P 8 5 (a1 + 1)) 8 6 (a2 + 1)) a2 0 - 1) + 1)) 8 7 - 1) ∧ A_1 8 3 = yku A ((UP (UP (UP P 8 5 (a1 + 1)) 8 6 (a2 + 1)) 8 7 (((UP (UP P 8 5 (a1 + 1)) 8 6 (a2 + 1)) a2 0 - 1) + 1)) 8 5 - 1) ((UP (UP (UP P 8 5 (a1 + 1)) 8 6 (a2 + 1)) 8 7 (((UP (UP P 8 5 (a1 + 1)) 8 6 (a2 + 1)) a2 0 - 1) + 1)) 8 7 - 1) ∧ ∀ p : Nat, (p : Int) < A ((UP (UP (UP P 8 5 (a1 + 1)) 8 6 (a2 + 1)) 8 7 (((UP (UP P 8 5 (a1 + 1)) 8 6 (a2 + 1)) a2 0 - 1) + 1)) 8 5 - 1) 4 → A_1 10 p = ykf A ((UP (UP (UP P 8 5 (a1 + 1)) 8 6 (a2 + 1)) 8 7 (((UP (UP P 8 5 (a1 + 1)) 8 6 (a2 + 1)) a2 0 - 1) + 1)) 8 5 - 1) ((UP (UP (UP P 8 5 (a1 + 1)) 8 6 (a2 + 1)) 8 7 (((UP (UP P 8 5 (a1 + 1)) 8 6 (a2 + 1)) a2 0 - 1) + 1)) 8 7 - 1) p) → (LyC W (UP (UP (UP P 8 5 (a1 + 1)) 8 6 (a2 + 1)) 8 7 (((UP (UP P 8 5 (a1 + 1)) 8 6 (a2 + 1)) a2 0 - 1) + 1)) A_1) ∧ (1 ≤ (4 : Int) ∧ (4 : Int) ≤ 4) ∧ (¬ (UP (UP (UP P 8 5 (a1 + 1)) 8 6 (a2 + 1)) 8 7 (((UP (UP P 8 5 (a1 + 1)) 8 6 (a2 + 1)) a2 0 - 1) + 1)) 8 5 = 0) ∧ (gK W ((UP (UP (UP P 8 5 (a1 + 1)) 8 6 (a2 + 1)) 8 7 (((UP (UP P 8 5 (a1 + 1)) 8 6 (a2 + 1)) a2 0 - 1) + 1)) 8 5 - 1) = 3) ∧ (Rg ((min (A_1 ((UP (UP (UP P 8 5 (a1 + 1)) 8 6 (a2 + 1)) 8 7 (((UP (UP P 8 5 (a1 + 1)) 8 6 (a2 + 1)) a2 0 - 1) + 1)) 8 5 - 1) 4) 24) - 1)) ∧ wpE (xT 69) (xev xT d) Q (45, [(0, .ref (lo W 8)), (3, .int (iz (ykl A_1 ((UP (UP (UP P 8 5 (a1 + 1)) 8 6 (a2 + 1)) 8 7 (((UP (UP P 8 5 (a1 + 1)) 8 6 (a2 + 1)) a2 0 - 1) + 1)) 8 5 - 1) 0 4))), (4, .int (iz ((min (A_1 ((UP (UP (UP P 8 5 (a1 + 1)) 8 6 (a2 + 1)) 8 7 (((UP (UP P 8 5 (a1 + 1)) 8 6 (a2 + 1)) a2 0 - 1) + 1)) 8 5 - 1) 4) 24) - 1)))], [], Wm W A_1 (UP (UP (UP P 8 5 (a1 + 1)) 8 6 (a2 + 1)) 8 7 (((UP (UP P 8 5 (a1 + 1)) 8 6 (a2 + 1)) a2 0 - 1) + 1))))) : wpE (xT 69) (xev xT d) Q (0, [(0, .ref (lo W 8)), (1, .ref (lo W a1)), (2, .ref (lo W a2))], [], Wm W A P) := by
  refine p_ald (cc3 c69_0) rfl ?_
  refine p_ald (cc3 c69_1) rfl ?_
  obtain ⟨g1, h⟩ := h
  refine w_putp hW (cc3 c69_2) (st_k hT 8 4 (by decide)) (ji := 5) rfl g1 ?_
  refine p_ald (cc3 c69_5) rfl ?_
  refine p_ald (cc3 c69_6) rfl ?_
  obtain ⟨g2, h⟩ := h
  refine w_putp hW (cc3 c69_7) (st_k (Stat.up (v := a1 + 1) hT (po_l (c := 8) (j := 5) (by decide)) (Or.inr g1)) 8 4 (by decide)) (ji := 6) rfl g2 ?_
  refine p_ald (cc3 c69_10) rfl ?_
  refine p_ald (cc3 c69_11) rfl ?_
  obtain ⟨g3, h⟩ := h
  obtain ⟨g4, h⟩ := h
  refine w_getp0 hW (Stat.up (v := a2 + 1) (Stat.up (v := a1 + 1) hT (po_l (c := 8) (j := 5) (by decide)) (Or.inr g1)) (po_l (c := 8) (j := 6) (by decide)) (Or.inr g2)).1 (cc3 c69_12) g3 (ji := 0) rfl g4 ?_
  obtain ⟨g5, h⟩ := h
  refine w_putp hW (cc3 c69_15) (st_k (Stat.up (v := a2 + 1) (Stat.up (v := a1 + 1) hT (po_l (c := 8) (j := 5) (by decide)) (Or.inr g1)) (po_l (c := 8) (j := 6) (by decide)) (Or.inr g2)) 8 4 (by decide)) (ji := 7) rfl g5 ?_
  refine p_ald (cc3 c69_18) rfl ?_
  obtain ⟨g6, h⟩ := h
  obtain ⟨A_1, he, hR_1, hp_1⟩ := S70 (A := A) (P := UP (UP (UP P 8 5 (a1 + 1)) 8 6 (a2 + 1)) 8 7 (((UP (UP P 8 5 (a1 + 1)) 8 6 (a2 + 1)) a2 0 - 1) + 1)) (Nat.le_trans (by decide) hd) hW hR (Stat.up (v := ((UP (UP P 8 5 (a1 + 1)) 8 6 (a2 + 1)) a2 0 - 1) + 1) (Stat.up (v := a2 + 1) (Stat.up (v := a1 + 1) hT (po_l (c := 8) (j := 5) (by decide)) (Or.inr g1)) (po_l (c := 8) (j := 6) (by decide)) (Or.inr g2)) (po_l (c := 8) (j := 7) (by decide)) (Or.inr g5)) hG g6
  have h := h A_1 hR_1 hp_1
  refine p_callV (cc3 c69_19) (Nat.le_of_ble_eq_true rfl) rfl rfl (Nat.le_of_ble_eq_true rfl) (wk_kd hW (by decide) (st_k (Stat.up (v := ((UP (UP P 8 5 (a1 + 1)) 8 6 (a2 + 1)) a2 0 - 1) + 1) (Stat.up (v := a2 + 1) (Stat.up (v := a1 + 1) hT (po_l (c := 8) (j := 5) (by decide)) (Or.inr g1)) (po_l (c := 8) (j := 6) (by decide)) (Or.inr g2)) (po_l (c := 8) (j := 7) (by decide)) (Or.inr g5)) 8 4 (by decide))) he ?_
  refine p_ald (cc3 c69_22) rfl ?_
  refine i_push (n := 0) (cc3 c69_23) zl_0 ?_
  refine i_push (n := 4) (cc3 c69_24) zl_4 ?_
  obtain ⟨g7, h⟩ := h
  obtain ⟨g8, h⟩ := h
  refine p_callV (cc3 c69_25) (Nat.le_of_ble_eq_true rfl) rfl rfl (Nat.le_of_ble_eq_true rfl) (wk_kd hW (by decide) (st_k (Stat.up (v := ((UP (UP P 8 5 (a1 + 1)) 8 6 (a2 + 1)) a2 0 - 1) + 1) (Stat.up (v := a2 + 1) (Stat.up (v := a1 + 1) hT (po_l (c := 8) (j := 5) (by decide)) (Or.inr g1)) (po_l (c := 8) (j := 6) (by decide)) (Or.inr g2)) (po_l (c := 8) (j := 7) (by decide)) (Or.inr g5)) 8 4 (by decide))) (S75 (Nat.le_trans (by decide) hd) hW hR_1 (Stat.up (v := ((UP (UP P 8 5 (a1 + 1)) 8 6 (a2 + 1)) a2 0 - 1) + 1) (Stat.up (v := a2 + 1) (Stat.up (v := a1 + 1) hT (po_l (c := 8) (j := 5) (by decide)) (Or.inr g1)) (po_l (c := 8) (j := 6) (by decide)) (Or.inr g2)) (po_l (c := 8) (j := 7) (by decide)) (Or.inr g5)) hG ⟨(by decide : Rg (0 : Int)), (by decide : Rg (4 : Int))⟩ ⟨g7, g8⟩) ?_
  refine p_ist (ls' := [(3, .int (iz (ykl A_1 ((UP (UP (UP P 8 5 (a1 + 1)) 8 6 (a2 + 1)) 8 7 (((UP (UP P 8 5 (a1 + 1)) 8 6 (a2 + 1)) a2 0 - 1) + 1)) 8 5 - 1) 0 4))), (0, .ref (lo W 8)), (1, .ref (lo W a1)), (2, .ref (lo W a2))]) (cc3 c69_28) (by decide) rfl ?_
  refine p_ald (cc3 c69_29) rfl ?_
  obtain ⟨g9, h⟩ := h
  refine w_getp0 hW (Stat.up (v := ((UP (UP P 8 5 (a1 + 1)) 8 6 (a2 + 1)) a2 0 - 1) + 1) (Stat.up (v := a2 + 1) (Stat.up (v := a1 + 1) hT (po_l (c := 8) (j := 5) (by decide)) (Or.inr g1)) (po_l (c := 8) (j := 6) (by decide)) (Or.inr g2)) (po_l (c := 8) (j := 7) (by decide)) (Or.inr g5)).1 (cc3 c69_30) (st_k (Stat.up (v := ((UP (UP P 8 5 (a1 + 1)) 8 6 (a2 + 1)) a2 0 - 1) + 1) (Stat.up (v := a2 + 1) (Stat.up (v := a1 + 1) hT (po_l (c := 8) (j := 5) (by decide)) (Or.inr g1)) (po_l (c := 8) (j := 6) (by decide)) (Or.inr g2)) (po_l (c := 8) (j := 7) (by decide)) (Or.inr g5)) 8 4 (by decide)) (ji := 5) rfl g9 ?_
  obtain ⟨g10, h⟩ := h
  refine w_geti hW (v := A_1 ((UP (UP (UP P 8 5 (a1 + 1)) 8 6 (a2 + 1)) 8 7 (((UP (UP P 8 5 (a1 + 1)) 8 6 (a2 + 1)) a2 0 - 1) + 1)) 8 5 - 1) 4) (cc3 c69_33) g10 (ji := 4) rfl rfl ?_
  refine i_push (n := 24) (cc3 c69_36) zl_24 ?_
  refine p_callS (cc3 c69_38) (Nat.le_of_ble_eq_true rfl) rfl rfl (Nat.le_of_ble_eq_true rfl) (S36 (Nat.le_trans (by decide) hd) ⟨(hR_1 ((UP (UP (UP P 8 5 (a1 + 1)) 8 6 (a2 + 1)) 8 7 (((UP (UP P 8 5 (a1 + 1)) 8 6 (a2 + 1)) a2 0 - 1) + 1)) 8 5 - 1) 4), (by decide : Rg (24 : Int))⟩) ?_
  refine i_push (n := 1) (cc3 c69_41) zl_1 ?_
  obtain ⟨g11, h⟩ := h
  refine (fun _ : Rg ((min (A_1 ((UP (UP (UP P 8 5 (a1 + 1)) 8 6 (a2 + 1)) 8 7 (((UP (UP P 8 5 (a1 + 1)) 8 6 (a2 + 1)) a2 0 - 1) + 1)) 8 5 - 1) 4) 24) - 1) => i_sub (cc3 c69_42) ?_) g11
  refine p_ist (ls' := [(4, .int (iz ((min (A_1 ((UP (UP (UP P 8 5 (a1 + 1)) 8 6 (a2 + 1)) 8 7 (((UP (UP P 8 5 (a1 + 1)) 8 6 (a2 + 1)) a2 0 - 1) + 1)) 8 5 - 1) 4) 24) - 1))), (3, .int (iz (ykl A_1 ((UP (UP (UP P 8 5 (a1 + 1)) 8 6 (a2 + 1)) 8 7 (((UP (UP P 8 5 (a1 + 1)) 8 6 (a2 + 1)) a2 0 - 1) + 1)) 8 5 - 1) 0 4))), (0, .ref (lo W 8)), (1, .ref (lo W a1)), (2, .ref (lo W a2))]) (cc3 c69_43) (by decide) rfl ?_
  exact p_lc (ls' := [(0, .ref (lo W 8)), (3, .int (iz (ykl A_1 ((UP (UP (UP P 8 5 (a1 + 1)) 8 6 (a2 + 1)) 8 7 (((UP (UP P 8 5 (a1 + 1)) 8 6 (a2 + 1)) a2 0 - 1) + 1)) 8 5 - 1) 0 4))), (4, .int (iz ((min (A_1 ((UP (UP (UP P 8 5 (a1 + 1)) 8 6 (a2 + 1)) 8 7 (((UP (UP P 8 5 (a1 + 1)) 8 6 (a2 + 1)) a2 0 - 1) + 1)) 8 5 - 1) 4) 24) - 1)))]) c69_45 rfl rfl h
theorem V69_45 {d : Nat} (hd : 4 ≤ d) {Q : Option Value → xM → Prop} {W : gW} (hW : HW W) {A : Nat → Int → Int} {P : Nat → Int → Nat} (hR : RG A) (hT : Stat W P) (hG : GL W) {x3 x4 : Int} (rr : Rg x3 ∧ Rg x4) (h : (((x4 < 0) → wpE (xT 69) (xev xT d) Q (114, [(0, .ref (lo W 8)), (4, .int (iz 0))], [], Wm W (UA A 8 4 (-1)) P)) ∧ (¬ (x4 < 0) → wpE (xT 69) (xev xT d) Q (53, [(0, .ref (lo W 8)), (3, .int (iz x3)), (4, .int (iz x4)), (5, .int (iz 0))], [], Wm W A P)))) : wpE (xT 69) (xev xT d) Q (45, [(0, .ref (lo W 8)), (3, .int (iz x3)), (4, .int (iz x4))], [], Wm W A P) := by
  refine p_ild (cct c69_45 rfl) rfl ?_
  refine i_if (c' := x4 < 0) (cc3 c69_47) (c_lt0 rr.2) (fun c => ?_) (fun c => ?_)
  · have h := h.1 c
    refine p_ald (cc3 c69_106) rfl ?_
    refine i_push (n := (-1)) (cc3 c69_107) zl_m1 ?_
    refine id (α := Rg (-1) → _) (fun _ => ?_) (by decide : Rg (-1 : Int)); refine w_puti hW (cc3 c69_108) (st_k hT 8 4 (by decide)) (ji := 4) rfl ?_
    refine i_push (n := 0) (cc3 c69_111) zl_0 ?_
    refine p_ist (ls' := [(4, .int (iz 0)), (0, .ref (lo W 8)), (3, .int (iz x3))]) (cc3 c69_112) (by decide) rfl ?_
    exact p_lc (ls' := [(0, .ref (lo W 8)), (4, .int (iz 0))]) c69_114 rfl rfl h
  · have h := h.2 c
    refine i_push (n := 0) (cc3 c69_50) zl_0 ?_
    refine p_ist (ls' := [(5, .int (iz 0)), (0, .ref (lo W 8)), (3, .int (iz x3)), (4, .int (iz x4))]) (cc3 c69_51) (by decide) rfl ?_
    exact p_lc (ls' := [(0, .ref (lo W 8)), (3, .int (iz x3)), (4, .int (iz x4)), (5, .int (iz 0))]) c69_53 rfl rfl h
theorem V69_53 {d : Nat} (hd : 4 ≤ d) {Q : Option Value → xM → Prop} {W : gW} (hW : HW W) {A : Nat → Int → Int} {P : Nat → Int → Nat} (hR : RG A) (hT : Stat W P) (hG : GL W) {x3 x4 x5 : Int} (rr : Rg x3 ∧ Rg x4 ∧ Rg x5) (h : (Rg (x4 * x3)) ∧ (Rg (3 + (x4 * x3))) ∧ ((((3 + (x4 * x3)) < x5) → (Rg (x4 - 1)) ∧ wpE (xT 69) (xev xT d) Q (45, [(0, .ref (lo W 8)), (3, .int (iz x3)), (4, .int (iz (x4 - 1)))], [], Wm W A P)) ∧ (¬ ((3 + (x4 * x3)) < x5) → (((211 ≤ x5) → (Rg (x4 - 1)) ∧ wpE (xT 69) (xev xT d) Q (45, [(0, .ref (lo W 8)), (3, .int (iz x3)), (4, .int (iz (x4 - 1)))], [], Wm W A P)) ∧ (¬ (211 ≤ x5) → (Rg (x4 * 211)) ∧ (Rg ((x4 * 211) + x5)) ∧ (LyC W P A) ∧ (0 ≤ A 8 3 ∧ A 8 3 ≤ 100000) ∧ (0 ≤ x4 ∧ x4 < A (P 8 5 - 1) 4) ∧ (0 ≤ x5 ∧ x5 ≤ 210) ∧ (0 ≤ A 10 x4 ∧ A 10 x4 ≤ 100000) ∧ (0 ≤ ((x4 * 211) + x5) ∧ ((x4 * 211) + x5) < 5064) ∧ (Rg (x5 + 1)) ∧ wpE (xT 69) (xev xT d) Q (53, [(0, .ref (lo W 8)), (3, .int (iz x3)), (4, .int (iz x4)), (5, .int (iz (x5 + 1)))], [], Wm W (UA A 9 ((x4 * 211) + x5) (k_few A (P 8 5 - 1) (P 8 6 - 1) (P 8 7 - 1) x4 x5)) P)))))) : wpE (xT 69) (xev xT d) Q (53, [(0, .ref (lo W 8)), (3, .int (iz x3)), (4, .int (iz x4)), (5, .int (iz x5))], [], Wm W A P) := by
  refine p_ild (cct c69_53 rfl) rfl ?_
  refine i_push (n := 3) (cc3 c69_55) zl_3 ?_
  refine p_ild (cc3 c69_56) rfl ?_
  refine p_ild (cc3 c69_58) rfl ?_
  obtain ⟨g1, h⟩ := h
  refine (fun _ : Rg (x4 * x3) => i_mul (cc3 c69_59) ?_) g1
  obtain ⟨g2, h⟩ := h
  refine (fun _ : Rg (3 + (x4 * x3)) => i_add (cc3 c69_60) ?_) g2
  refine i_icmp (c' := (3 + (x4 * x3)) < x5) (cc3 c69_61) (iz_lt g2 rr.2.2) (fun c => ?_) (fun c => ?_)
  · have h := h.1 c
    refine p_lc (ls' := [(0, .ref (lo W 8)), (3, .int (iz x3)), (4, .int (iz x4))]) c69_100 rfl rfl ?_
    obtain ⟨g3, h⟩ := h
    refine (fun _ : Rg (x4 - 1) => i_iinc (n := (-1)) (y := x4 - 1) (ls' := [(4, .int (iz (x4 - 1))), (0, .ref (lo W 8)), (3, .int (iz x3))]) (cct c69_100 rfl) (by decide) rfl zl_m1 (by first | rfl | omega) rfl ?_) g3
    refine p_goto (cc3 c69_103) ?_
    exact p_lc (ls' := [(0, .ref (lo W 8)), (3, .int (iz x3)), (4, .int (iz (x4 - 1)))]) c69_45 rfl rfl h
  · have h := h.2 c
    refine p_ild (cc3 c69_64) rfl ?_
    refine i_push (n := 211) (cc3 c69_66) zl_211 ?_
    refine i_icmp (c' := 211 ≤ x5) (cc3 c69_69) (iz_le (by decide : Rg (211 : Int)) rr.2.2) (fun c => ?_) (fun c => ?_)
    · have h := h.1 c
      refine p_lc (ls' := [(0, .ref (lo W 8)), (3, .int (iz x3)), (4, .int (iz x4))]) c69_100 rfl rfl ?_
      obtain ⟨g3, h⟩ := h
      refine (fun _ : Rg (x4 - 1) => i_iinc (n := (-1)) (y := x4 - 1) (ls' := [(4, .int (iz (x4 - 1))), (0, .ref (lo W 8)), (3, .int (iz x3))]) (cct c69_100 rfl) (by decide) rfl zl_m1 (by first | rfl | omega) rfl ?_) g3
      refine p_goto (cc3 c69_103) ?_
      exact p_lc (ls' := [(0, .ref (lo W 8)), (3, .int (iz x3)), (4, .int (iz (x4 - 1)))]) c69_45 rfl rfl h
    · have h := h.2 c
      refine p_ald (cc3 c69_72) rfl ?_
      refine w_getp hW hT.1 (b := 9) (cc3 c69_73) (st_k hT 8 4 (by decide)) (ji := 0) rfl (st_p hT 8 0 9 (by decide)) ?_
      refine p_ild (cc3 c69_76) rfl ?_
      refine i_push (n := 211) (cc3 c69_78) zl_211 ?_
      obtain ⟨g3, h⟩ := h
      refine (fun _ : Rg (x4 * 211) => i_mul (cc3 c69_81) ?_) g3
      refine p_ild (cc3 c69_82) rfl ?_
      obtain ⟨g4, h⟩ := h
      refine (fun _ : Rg ((x4 * 211) + x5) => i_add (cc3 c69_84) ?_) g4
      refine p_ald (cc3 c69_85) rfl ?_
      refine p_ild (cc3 c69_86) rfl ?_
      refine p_ild (cc3 c69_88) rfl ?_
      obtain ⟨g5, h⟩ := h
      obtain ⟨g6, h⟩ := h
      obtain ⟨g7, h⟩ := h
      obtain ⟨g8, h⟩ := h
      obtain ⟨g9, h⟩ := h
      refine p_callV (cc3 c69_90) (Nat.le_of_ble_eq_true rfl) rfl rfl (Nat.le_of_ble_eq_true rfl) (wk_kd hW (by decide) (st_k hT 8 4 (by decide))) (S76 (Nat.le_trans (by decide) hd) hW hR hT hG ⟨rr.2.1, rr.2.2⟩ ⟨g5, g6, g7, g8, g9⟩) ?_
      obtain ⟨g10, h⟩ := h
      refine id (α := Rg (k_few A (P 8 5 - 1) (P 8 6 - 1) (P 8 7 - 1) x4 x5) → _) (fun _ => ?_) (rg_fewP hR ⟨g5, g6, g7, g8, g9⟩); refine w_asti hW (cc3 c69_93) (st_k hT 9 20 (by decide)) (st_i hT 9 5064 (by decide) g10) rfl ?_
      obtain ⟨g11, h⟩ := h
      refine (fun _ : Rg (x5 + 1) => i_iinc (n := 1) (y := x5 + 1) (ls' := [(5, .int (iz (x5 + 1))), (0, .ref (lo W 8)), (3, .int (iz x3)), (4, .int (iz x4))]) (cc3 c69_94) (by decide) rfl zl_1 (by first | rfl | omega) rfl ?_) g11
      refine p_goto (cc3 c69_97) ?_
      exact p_lc (ls' := [(0, .ref (lo W 8)), (3, .int (iz x3)), (4, .int (iz x4)), (5, .int (iz (x5 + 1)))]) c69_53 rfl rfl h
theorem V69_114 {d : Nat} (hd : 4 ≤ d) {Q : Option Value → xM → Prop} {W : gW} (hW : HW W) {A : Nat → Int → Int} {P : Nat → Int → Nat} (hR : RG A) (hT : Stat W P) (hG : GL W) {x4 : Int} (rr : Rg x4) (h : (((3 < x4) → ((((A 8 4) = (-1)) → Q (some (.int (iz (-1)))) (Wm W A P)) ∧ (¬ ((A 8 4) = (-1)) → (LyC W P A) ∧ (0 ≤ A 8 3 ∧ A 8 3 ≤ 100000) ∧ (0 ≤ (A 8 4) ∧ (A 8 4) ≤ 1000) ∧ Q (some (.int (iz (A 8 3 + (A 8 4) * A (P 8 7 - 1) 1 + A (P 8 5 - 1) 7)))) (Wm W A P)))) ∧ (¬ (3 < x4) → (LyC W P A) ∧ (0 ≤ A 8 2 ∧ A 8 2 ≤ 100000) ∧ (0 ≤ x4 ∧ x4 ≤ 1000) ∧ ((¬ (¬ k_isF A (P 8 6 - 1) (A 8 2 + x4 * A (P 8 7 - 1) 1) (A (P 8 5 - 1) 7)) → (Rg (x4 + 1)) ∧ wpE (xT 69) (xev xT d) Q (114, [(0, .ref (lo W 8)), (4, .int (iz (x4 + 1)))], [], Wm W A P)) ∧ ((¬ k_isF A (P 8 6 - 1) (A 8 2 + x4 * A (P 8 7 - 1) 1) (A (P 8 5 - 1) 7)) → (Rg (x4 + 1)) ∧ wpE (xT 69) (xev xT d) Q (114, [(0, .ref (lo W 8)), (4, .int (iz (x4 + 1)))], [], Wm W (UA A 8 4 (k_fewer (A 8 4) (k_kept A 0 x4))) P)))))) : wpE (xT 69) (xev xT d) Q (114, [(0, .ref (lo W 8)), (4, .int (iz x4))], [], Wm W A P) := by
  refine p_ild (cct c69_114 rfl) rfl ?_
  refine i_push (n := 3) (cc3 c69_116) zl_3 ?_
  refine i_icmp (c' := 3 < x4) (cc3 c69_117) (iz_lt (by decide : Rg (3 : Int)) rr) (fun c => ?_) (fun c => ?_)
  · have h := h.1 c
    refine p_ald (cc3 c69_153) rfl ?_
    refine w_geti hW (v := A 8 4) (cc3 c69_154) (st_k hT 8 4 (by decide)) (ji := 4) rfl rfl ?_
    refine i_push (n := (-1)) (cc3 c69_157) zl_m1 ?_
    refine i_icmp (c' := (A 8 4) = (-1)) (cc3 c69_158) (iz_inj (hR 8 4) (by decide : Rg (-1 : Int))) (fun c => ?_) (fun c => ?_)
    · have h := h.1 c
      refine i_push (n := (-1)) (cc3 c69_161) zl_m1 ?_
      refine p_goto (cc3 c69_162) ?_
      refine p_lc (ls' := []) c69_173 rfl rfl ?_
      exact p_ri (cct c69_173 rfl) trivial h
    · have h := h.2 c
      refine p_ald (cc3 c69_165) rfl ?_
      refine p_ald (cc3 c69_166) rfl ?_
      refine w_geti hW (v := A 8 4) (cc3 c69_167) (st_k hT 8 4 (by decide)) (ji := 4) rfl rfl ?_
      obtain ⟨g1, h⟩ := h
      obtain ⟨g2, h⟩ := h
      obtain ⟨g3, h⟩ := h
      refine p_callV (cc3 c69_170) (Nat.le_of_ble_eq_true rfl) rfl rfl (Nat.le_of_ble_eq_true rfl) (wk_kd hW (by decide) (st_k hT 8 4 (by decide))) (S77 (Nat.le_trans (by decide) hd) hW hR hT hG (hR 8 4) ⟨g1, g2, g3⟩) ?_
      refine p_lc (ls' := []) c69_173 rfl rfl ?_
      exact p_ri (cct c69_173 rfl) trivial h
  · have h := h.2 c
    refine p_ald (cc3 c69_120) rfl ?_
    refine p_ild (cc3 c69_121) rfl ?_
    obtain ⟨g1, h⟩ := h
    obtain ⟨g2, h⟩ := h
    obtain ⟨g3, h⟩ := h
    refine p_callV (cc3 c69_123) (Nat.le_of_ble_eq_true rfl) rfl rfl (Nat.le_of_ble_eq_true rfl) (wk_kd hW (by decide) (st_k hT 8 4 (by decide))) (S82 (Nat.le_trans (by decide) hd) hW hR hT hG rr ⟨g1, g2, g3⟩) ?_
    refine i_ifB (cc3 c69_126) (fun c => ?_) (fun c => ?_)
    · have h := h.1 c
      obtain ⟨g4, h⟩ := h
      refine (fun _ : Rg (x4 + 1) => i_iinc (n := 1) (y := x4 + 1) (ls' := [(4, .int (iz (x4 + 1))), (0, .ref (lo W 8))]) (cct c69_147 rfl) (by decide) rfl zl_1 (by first | rfl | omega) rfl ?_) g4
      refine p_goto (cc3 c69_150) ?_
      exact p_lc (ls' := [(0, .ref (lo W 8)), (4, .int (iz (x4 + 1)))]) c69_114 rfl rfl h
    · have h := h.2 c
      refine p_ald (cc3 c69_129) rfl ?_
      refine p_ald (cc3 c69_130) rfl ?_
      refine w_geti hW (v := A 8 4) (cc3 c69_131) (st_k hT 8 4 (by decide)) (ji := 4) rfl rfl ?_
      refine p_ald (cc3 c69_134) rfl ?_
      refine i_push (n := 0) (cc3 c69_135) zl_0 ?_
      refine p_ild (cc3 c69_136) rfl ?_
      refine p_callV (cc3 c69_138) (Nat.le_of_ble_eq_true rfl) rfl rfl (Nat.le_of_ble_eq_true rfl) (wk_kd hW (by decide) (st_k hT 8 4 (by decide))) (S80 (Nat.le_trans (by decide) hd) hW hR hT hG ⟨(by decide : Rg (0 : Int)), rr⟩) ?_
      refine p_callS (cc3 c69_141) (Nat.le_of_ble_eq_true rfl) rfl rfl (Nat.le_of_ble_eq_true rfl) (S81 (Nat.le_trans (by decide) hd) ⟨(hR 8 4), (rg_kept hR)⟩) ?_
      refine id (α := Rg (k_fewer (A 8 4) (k_kept A 0 x4)) → _) (fun _ => ?_) (rg_few ⟨(hR 8 4), (rg_kept hR)⟩); refine w_puti hW (cc3 c69_144) (st_k hT 8 4 (by decide)) (ji := 4) rfl ?_
      obtain ⟨g4, h⟩ := h
      refine (fun _ : Rg (x4 + 1) => i_iinc (n := 1) (y := x4 + 1) (ls' := [(4, .int (iz (x4 + 1))), (0, .ref (lo W 8))]) (cct c69_147 rfl) (by decide) rfl zl_1 (by first | rfl | omega) rfl ?_) g4
      refine p_goto (cc3 c69_150) ?_
      exact p_lc (ls' := [(0, .ref (lo W 8)), (4, .int (iz (x4 + 1)))]) c69_114 rfl rfl h

theorem TIn.c {A A' : Nat → Int → Int} {k b s : Nat} {p0 : Int} (h : TIn A k b s p0) (hE : LyE A A') (h9 : ∀ j : Int, p0 * 211 ≤ j → A' 9 j = A 9 j) (hk : 29 ≤ k ∧ 29 ≤ b ∧ 29 ≤ s) : TIn A' k b s p0 := fun p t q1 q2 q3 q4 q5 => by
  have ek := hE.1 k hk.1
  have el : ykl A' k 0 4 = ykl A k 0 4 := by unfold ykl; rw [ek]
  rw [ek] at q3
  rw [el] at q5
  have e1 : p0 * 211 ≤ p * 211 := Int.mul_le_mul_of_nonneg_right q1 (by decide)
  rw [h9 _ (by omega), KT_c hE hk, ek]
  exact h p t q1 q2 q3 q4 q5
theorem L69t {d : Nat} (hd : 4 ≤ d) {Q : Option Value → xM → Prop} {W : gW} (hW : HW W) {A0 : Nat → Int → Int} {P : Nat → Int → Nat} (hT : Stat W P) (hG : GL W) (hp : LyC W P A0) (h83 : 0 ≤ A0 8 3 ∧ A0 8 3 ≤ 100000) (h10 : ∀ p : Int, 0 ≤ p → p < A0 (P 8 5 - 1) 4 → 0 ≤ A0 10 p ∧ A0 10 p ≤ 100000) {p : Int} (hp0 : 0 ≤ p ∧ p < A0 (P 8 5 - 1) 4)
    (hQ : ∀ A, RG A → Fo 8 [9] [] A0 A → TIn A (P 8 5 - 1) (P 8 6 - 1) (P 8 7 - 1) p → wpE (xT 69) (xev xT d) Q (45, [(0, .ref (lo W 8)), (3, .int (iz (ykl A0 (P 8 5 - 1) 0 4))), (4, .int (iz (p - 1)))], [], Wm W A P)) :
    ∀ (n : Nat) (t : Int) (A : Nat → Int → Int), 0 ≤ t → t + n = 4 + p * ykl A0 (P 8 5 - 1) 0 4 → RG A → Fo 8 [9] [] A0 A → TIn A (P 8 5 - 1) (P 8 6 - 1) (P 8 7 - 1) (p + 1) → (∀ q : Int, 0 ≤ q → q < t → A 9 (p * 211 + q) = KT A (P 8 5 - 1) (P 8 6 - 1) (P 8 7 - 1) (A (P 8 5 - 1) 4 - 1 - p).toNat p q) → wpE (xT 69) (xev xT d) Q (53, [(0, .ref (lo W 8)), (3, .int (iz (ykl A0 (P 8 5 - 1) 0 4))), (4, .int (iz p)), (5, .int (iz t))], [], Wm W A P) := by
  have hk := hp.2.1
  have h4 := hk.2.2.2.1
  have h9 := ykl_b (A := A0) (k := P 8 5 - 1) (p := 0) (m := 4) (by decide)
  have hm := mul_b (a := p) (b := ykl A0 (P 8 5 - 1) 0 4) (M := 23) (N := 9) (by omega) (by omega) (by omega) h9.2
  intro n
  induction n with
  | zero =>
    intro t A ht htn hR hF hTi hrow
    have hc : ∀ c, 29 ≤ c → A c = A0 c := fun c h => hF.1 c (by simp; omega) (by omega)
    have ek := hc _ hp.2.2.2.2.1
    have el : ykl A (P 8 5 - 1) 0 4 = ykl A0 (P 8 5 - 1) 0 4 := by unfold ykl; rw [ek]
    refine V69_53 hd hW hR hT hG ⟨⟨by omega, by omega⟩, ⟨by omega, by omega⟩, ⟨by omega, by omega⟩⟩ ⟨⟨by omega, by omega⟩, ⟨by omega, by omega⟩, fun _ => ⟨⟨by omega, by omega⟩, hQ A hR hF (fun p' t' q1 q2 q3 q4 q5 => ?_)⟩, fun c => absurd (by omega) c⟩
    by_cases e : p' = p
    · subst e
      rw [el] at q5
      exact hrow t' q4 (by omega)
    · exact hTi p' t' (by omega) q2 q3 q4 q5
  | succ n ih =>
    intro t A ht htn hR hF hTi hrow
    have hc : ∀ c, 29 ≤ c → A c = A0 c := fun c h => hF.1 c (by simp; omega) (by omega)
    have ek := hc _ hp.2.2.2.2.1
    have el : ykl A (P 8 5 - 1) 0 4 = ykl A0 (P 8 5 - 1) 0 4 := by unfold ykl; rw [ek]
    have e10 : A 10 = A0 10 := hF.1 10 (by decide) (by decide)
    have e83 : A 8 3 = A0 8 3 := hF.2 3 (by decide)
    have hten := h10 p hp0.1 hp0.2
    have hfew := few_K (A := A) (k := P 8 5 - 1) (b := P 8 6 - 1) (s := P 8 7 - 1) (p := p) (t := t) (by rw [ek]; exact h4) (by rw [ek]; exact hp0) (by rw [el]; omega) hTi
    have hrf := rg_fewF (k := P 8 5 - 1) (b := P 8 6 - 1) (s := P 8 7 - 1) (p := p) (t := t) hR (by omega)
    have hE : LyE A (UA A 9 (p * 211 + t) (k_few A (P 8 5 - 1) (P 8 6 - 1) (P 8 7 - 1) p t)) := ⟨fun c h => by funext j; exact UA_c (by omega), rfl, rfl, rfl⟩
    refine V69_53 hd hW hR hT hG ⟨⟨by omega, by omega⟩, ⟨by omega, by omega⟩, ⟨by omega, by omega⟩⟩ ⟨⟨by omega, by omega⟩, ⟨by omega, by omega⟩, fun c => absurd c (by omega), fun _ => ⟨fun c => absurd c (by omega), fun _ => ⟨⟨by omega, by omega⟩, ⟨by omega, by omega⟩, hp.c hc, by rw [e83]; exact h83, by rw [ek]; exact hp0, by omega, by rw [e10]; exact hten, by omega, ⟨by omega, by omega⟩, ?_⟩⟩⟩
    refine ih (t + 1) _ (by omega) (by omega) (rg_UA hR hrf) (hF.row (by decide) (by decide)) (hTi.c hE (fun j hj => UA_j (by omega)) hp.2.2.2.2) (fun q q0 q1 => ?_)
    rw [KT_c hE hp.2.2.2.2]
    have ek2 : (UA A 9 (p * 211 + t) (k_few A (P 8 5 - 1) (P 8 6 - 1) (P 8 7 - 1) p t)) (P 8 5 - 1) = A (P 8 5 - 1) := hE.1 _ hp.2.2.2.2.1
    rw [ek2]
    by_cases e : q = t
    · subst e; rw [UA_eq, hfew]
    · rw [UA_j (by omega)]; exact hrow q q0 (by omega)
theorem L69p {d : Nat} (hd : 4 ≤ d) {Q : Option Value → xM → Prop} {W : gW} (hW : HW W) {A0 : Nat → Int → Int} {P : Nat → Int → Nat} (hT : Stat W P) (hG : GL W) (hp : LyC W P A0) (h83 : 0 ≤ A0 8 3 ∧ A0 8 3 ≤ 100000) (h10 : ∀ p : Int, 0 ≤ p → p < A0 (P 8 5 - 1) 4 → 0 ≤ A0 10 p ∧ A0 10 p ≤ 100000)
    (hQ : ∀ A, RG A → Fo 8 [9] [] A0 A → TIn A (P 8 5 - 1) (P 8 6 - 1) (P 8 7 - 1) 0 → wpE (xT 69) (xev xT d) Q (114, [(0, .ref (lo W 8)), (4, .int (iz 0))], [], Wm W (UA A 8 4 (-1)) P)) :
    ∀ (n : Nat) (A : Nat → Int → Int), (n : Int) ≤ A0 (P 8 5 - 1) 4 → RG A → Fo 8 [9] [] A0 A → TIn A (P 8 5 - 1) (P 8 6 - 1) (P 8 7 - 1) n → wpE (xT 69) (xev xT d) Q (45, [(0, .ref (lo W 8)), (3, .int (iz (ykl A0 (P 8 5 - 1) 0 4))), (4, .int (iz ((n : Int) - 1)))], [], Wm W A P) := by
  have hk := hp.2.1
  have h4 := hk.2.2.2.1
  have h9 := ykl_b (A := A0) (k := P 8 5 - 1) (p := 0) (m := 4) (by decide)
  intro n
  induction n with
  | zero =>
    intro A hn hR hF hTi
    exact V69_45 hd hW hR hT hG ⟨⟨by omega, by omega⟩, ⟨by omega, by omega⟩⟩ ⟨fun _ => hQ A hR hF hTi, fun c => absurd (by omega) c⟩
  | succ n ih =>
    intro A hn hR hF hTi
    have e : ((n + 1 : Nat) : Int) - 1 = n := by omega
    rw [e]
    have hm := mul_b (a := (n : Int)) (b := ykl A0 (P 8 5 - 1) 0 4) (M := 23) (N := 9) (by omega) (by omega) (by omega) h9.2
    refine V69_45 hd hW hR hT hG ⟨⟨by omega, by omega⟩, ⟨by omega, by omega⟩⟩ ⟨fun c => absurd c (by omega), fun _ => ?_⟩
    refine L69t hd hW hT hG hp h83 h10 (p := n) ⟨by omega, by omega⟩ (fun A' h1 h2 h3 => ih A' (by omega) h1 h2 h3) (4 + (n : Int) * ykl A0 (P 8 5 - 1) 0 4).toNat 0 A (Int.le_refl 0) (by omega) hR hF hTi (fun q q0 q1 => by omega)
theorem L69j {d : Nat} (hd : 4 ≤ d) {Q : Option Value → xM → Prop} {W : gW} (hW : HW W) {A0 : Nat → Int → Int} {P : Nat → Int → Nat} (hT : Stat W P) (hG : GL W) (hp : LyC W P A0) (h83 : 0 ≤ A0 8 3 ∧ A0 8 3 ≤ 100000) (h82 : 0 ≤ A0 8 2 ∧ A0 8 2 ≤ 100000) (hTi : TIn A0 (P 8 5 - 1) (P 8 6 - 1) (P 8 7 - 1) 0)
    (hQ : ∀ A, RG A → Fo 8 [] [4] A0 A → A 8 4 = ksr A0 (P 8 5 - 1) (P 8 6 - 1) (P 8 7 - 1) 4 → Q (some (.int (iz (if A 8 4 = -1 then -1 else k_usd A (P 8 5 - 1) (P 8 7 - 1) (A 8 4))))) (Wm W A P)) :
    ∀ (n j : Nat) (A : Nat → Int → Int), j + n = 4 → RG A → Fo 8 [] [4] A0 A → A 8 4 = ksr A0 (P 8 5 - 1) (P 8 6 - 1) (P 8 7 - 1) j → wpE (xT 69) (xev xT d) Q (114, [(0, .ref (lo W 8)), (4, .int (iz j))], [], Wm W A P) := by
  have hk := hp.2.1
  have h4 := hk.2.2.2.1
  intro n
  induction n with
  | zero =>
    intro j A hj hR hF h84
    have e : j = 4 := hj
    subst e
    have hc : ∀ c, 29 ≤ c → A c = A0 c := fun c h => hF.1 c (by simp) (by omega)
    have e83 : A 8 3 = A0 8 3 := hF.2 3 (by decide)
    have hr := ksr_r (A := A0) (k := P 8 5 - 1) (b := P 8 6 - 1) (s := P 8 7 - 1) h4 4 (Nat.le_refl 4)
    have q := hQ A hR hF h84
    refine V69_114 hd hW hR hT hG (by decide) ⟨fun _ => ⟨fun c => ?_, fun c => ⟨hp.c hc, by rw [e83]; exact h83, by omega, ?_⟩⟩, fun c => absurd (by decide) c⟩
    · rw [if_pos c] at q; exact q
    · rw [if_neg c] at q; exact q
  | succ n ih =>
    intro j A hj hR hF h84
    have hc : ∀ c, 29 ≤ c → A c = A0 c := fun c h => hF.1 c (by simp) (by omega)
    have e82 : A 8 2 = A0 8 2 := hF.2 2 (by decide)
    have e9 : A 9 = A0 9 := hF.1 9 (by simp) (by decide)
    have ek := hc _ hp.2.2.2.2.1
    have eb := hc _ hp.2.2.2.2.2.1
    have eb1 : A (P 8 6 - 1 + 1) = A0 (P 8 6 - 1 + 1) := hc _ (by have := hp.2.2.2.2.2.1; omega)
    have es := hc _ hp.2.2.2.2.2.2
    have hf : k_isF A (P 8 6 - 1) (A 8 2 + (j : Int) * A (P 8 7 - 1) 1) (A (P 8 5 - 1) 7) ↔ k_isF A0 (P 8 6 - 1) (A0 8 2 + (j : Int) * A0 (P 8 7 - 1) 1) (A0 (P 8 5 - 1) 7) := by unfold k_isF; rw [ek, eb, eb1, es, e82]
    have h9 := ykl_b (A := A0) (k := P 8 5 - 1) (p := 0) (m := 4) (by decide)
    have ekt : k_kept A 0 j = KT A0 (P 8 5 - 1) (P 8 6 - 1) (P 8 7 - 1) ((A0 (P 8 5 - 1) 4).toNat - 1) 0 j := by
      unfold k_kept
      rw [if_pos ⟨by omega, by omega⟩, e9]
      have := hTi 0 j (Int.le_refl 0) (Int.le_refl 0) (by omega) (by omega) (by omega)
      rw [show (0 : Int) * 211 + (j : Int) = 0 * 211 + j from rfl, this]
      congr 1
      omega
    have es2 : ksr A0 (P 8 5 - 1) (P 8 6 - 1) (P 8 7 - 1) (j + 1) = if ¬ k_isF A0 (P 8 6 - 1) (A0 8 2 + (j : Int) * A0 (P 8 7 - 1) 1) (A0 (P 8 5 - 1) 7) then k_fewer (ksr A0 (P 8 5 - 1) (P 8 6 - 1) (P 8 7 - 1) j) (KT A0 (P 8 5 - 1) (P 8 6 - 1) (P 8 7 - 1) ((A0 (P 8 5 - 1) 4).toNat - 1) 0 j) else ksr A0 (P 8 5 - 1) (P 8 6 - 1) (P 8 7 - 1) j := rfl
    refine V69_114 hd hW hR hT hG ⟨by omega, by omega⟩ ⟨fun c => absurd c (by omega), fun _ => ⟨hp.c hc, by rw [e82]; exact h82, by omega, fun c => ⟨⟨by omega, by omega⟩, ?_⟩, fun c => ⟨⟨by omega, by omega⟩, ?_⟩⟩⟩
    · refine ih (j + 1) A (by omega) hR hF ?_
      rw [es2, if_neg (fun q => c (fun z => q (hf.mp z)))]; exact h84
    · refine ih (j + 1) _ (by omega) (rg_UA hR (rg_few ⟨hR _ _, rg_kept hR⟩)) (hF.fld (by decide)) ?_
      rw [es2, if_pos (fun q => c (hf.mpr q)), UA_eq, h84, ekt]
theorem S69 {d : Nat} (hd : 5 ≤ d) {W : gW} (hW : HW W) {A : Nat → Int → Int} {P : Nat → Int → Nat} (hR : RG A) (hT : Stat W P) (hG : GL W) {a1 a2 : Nat} (hp : (OKi W P A a1) ∧ (OBt W P A a2) ∧ (OSt W P A (P a2 0 - 1)) ∧ (29 ≤ a1 ∧ 29 ≤ a2 ∧ 29 ≤ P a2 0 - 1)) : ∃ (r : Int) (A' : Nat → Int → Int) (P' : Nat → Int → Nat), xev xT d 69 [.ref (lo W 8), .ref (lo W a1), .ref (lo W a2)] (Wm W A P) (some (.int (iz r))) (Wm W A' P') ∧ Rg r ∧ RG A' ∧ Stat W P' ∧ (P' = UP (UP (UP P 8 5 (a1 + 1)) 8 6 (a2 + 1)) 8 7 (P a2 0) ∧ LyS A A' a1 a2 (P a2 0 - 1) ∧ r = (if A' 8 4 = -1 then -1 else k_usd A' a1 (P a2 0 - 1) (A' 8 4))) := by
  refine xev_g (i := 69) (as := [.ref (lo W 8), .ref (lo W a1), .ref (lo W a2)]) (σ := Wm W A P) (Q := fun r_ σ_ => ∃ (r : Int) (A' : Nat → Int → Int) (P' : Nat → Int → Nat), r_ = (some (.int (iz r))) ∧ σ_ = Wm W A' P' ∧ Rg r ∧ RG A' ∧ Stat W P' ∧ (P' = UP (UP (UP P 8 5 (a1 + 1)) 8 6 (a2 + 1)) 8 7 (P a2 0) ∧ LyS A A' a1 a2 (P a2 0 - 1) ∧ r = (if A' 8 4 = -1 then -1 else k_usd A' a1 (P a2 0 - 1) (A' 8 4)))) (D := 4) hd (Nat.le_of_ble_eq_true rfl) (fun r_ σ_ he hq => ?_) (fun d hd => V69_0 hd hW hR hT hG ?_)
  · obtain ⟨r, A', P', rfl, rfl, hq⟩ := hq
    exact ⟨r, A', P', he, hq⟩

  obtain ⟨p1, p2, p3, p4⟩ := hp
  have h4 := p1.2.2.2.1
  have hs6 := p3.1.1
  have n1 : NZ W a1 := kn p1.1
  have n2 : NZ W a2 := kn p2.1.1
  have n3 : ¬ P a2 0 = 0 := p2.2.2.2.2.2
  have ne2 : (UP (UP P 8 5 (a1 + 1)) 8 6 (a2 + 1)) a2 0 = P a2 0 := by unfold UP; rw [if_neg (by omega), if_neg (by omega)]
  have es : (P a2 0 - 1) + 1 = P a2 0 := by omega
  rw [ne2, es]
  have hT1 : Stat W (UP (UP (UP P 8 5 (a1 + 1)) 8 6 (a2 + 1)) 8 7 (P a2 0)) := Stat.up (v := P a2 0) (Stat.up (v := a2 + 1) (Stat.up (v := a1 + 1) hT (po_l (c := 8) (j := 5) (by decide)) (Or.inr n1)) (po_l (c := 8) (j := 6) (by decide)) (Or.inr n2)) (po_l (c := 8) (j := 7) (by decide)) (Or.inr (by omega))
  generalize hP' : UP (UP (UP P 8 5 (a1 + 1)) 8 6 (a2 + 1)) 8 7 (P a2 0) = P' at hT1 ⊢
  have q5 : P' 8 5 = a1 + 1 := by rw [← hP']; rfl
  have q6 : P' 8 6 = a2 + 1 := by rw [← hP']; rfl
  have q7 : P' 8 7 = P a2 0 := by rw [← hP']; rfl
  have qc : ∀ c, ¬ c = 8 → P' c = P c := fun c h => by rw [← hP']; funext j; unfold UP; rw [if_neg (fun q => h q.1), if_neg (fun q => h q.1), if_neg (fun q => h q.1)]
  have r5 : P' 8 5 - 1 = a1 := by omega
  have r6 : P' 8 6 - 1 = a2 := by omega
  have r7 : P' 8 7 - 1 = P a2 0 - 1 := by rw [q7]
  have hL : LyC W P' A := by
    unfold LyC
    rw [r5, r6, r7]
    refine ⟨⟨by omega, by omega, by omega⟩, ?_, ?_, ?_, p4⟩
    · unfold OKi OLg at p1 ⊢; rw [qc a1 (by omega), qc (a1 + 1) (by omega)]; exact p1
    · unfold OBt at p2 ⊢; rw [qc a2 (by omega)]; exact p2
    · unfold OSt at p3 ⊢; rw [qc (P a2 0 - 1) (by omega)]; exact p3
  refine ⟨n1, n2, p2.1.1, n3, by omega, hL, fun A1 hR1 h1 => ?_⟩
  obtain ⟨f1, e82, e83, e10⟩ := h1
  rw [r5, r7] at e82 e83
  rw [r5] at e10 ⊢
  rw [r7] at e10
  have hc1 : ∀ c, 29 ≤ c → A1 c = A c := fun c h => f1.1 c (by simp; omega) (by omega)
  have hL1 := hL.c hc1
  have ek1 := hc1 a1 p4.1
  have hy := ykf_b hL (p := 0) (by decide)
  rw [r5, r7] at hy
  have hyu : 0 ≤ yku A a1 (P a2 0 - 1) ∧ yku A a1 (P a2 0 - 1) ≤ 20000 := by
    have h9 := ykf_b hL (p := (A a1 4).toNat - 1) (by omega)
    rw [r5, r7] at h9
    have hcb := cen_b (x := ykf A a1 (P a2 0 - 1) ((A a1 4).toNat - 1) + A a1 6) (y := ykH A a1) (s := 0) p3
    have h6 := p1.2.2.2.2.2.2.1
    unfold yku
    omega
  refine ⟨hL1, by decide, by omega, by rw [← ek1] at h4; have := p1.1; omega, ?_, ?_⟩
  · rw [ek1]; constructor <;> omega
  have elk : ykl A1 a1 0 4 = ykl A1 (P' 8 5 - 1) 0 4 := by rw [r5]
  rw [elk]
  have emin : min (A1 a1 4) 24 - 1 = ((A a1 4).toNat : Int) - 1 := by rw [ek1]; omega
  rw [emin]
  have h10' : ∀ p : Int, 0 ≤ p → p < A1 (P' 8 5 - 1) 4 → 0 ≤ A1 10 p ∧ A1 10 p ≤ 100000 := fun p h0 h5 => by
    rw [r5, ek1] at h5
    have e := e10 p.toNat (by omega)
    rw [show ((p.toNat : Nat) : Int) = p by omega] at e
    have h9 := ykf_b hL (p := p.toNat) (by omega)
    rw [r5, r7] at h9
    omega
  refine L69p hd hW hT1 hG hL1 (by rw [e83]; omega) h10' (fun A2 hR2 hF2 hT2 => ?_) (A a1 4).toNat A1 (by rw [r5, ek1]; omega) hR1 Fo.rf (fun p t q1 q2 q3 => by rw [r5, ek1] at q3; omega)
  have hc2 : ∀ c, 29 ≤ c → A2 c = A1 c := fun c h => hF2.1 c (by simp; omega) (by omega)
  have hE3 : LyE A2 (UA A2 8 4 (-1)) := ⟨fun c h => by funext j; exact UA_c (by omega), rfl, rfl, rfl⟩
  have hL2 := hL1.c hc2
  have g2 : (UA A2 8 4 (-1)) 8 2 = yk0 A a1 (P a2 0 - 1) := by show A2 8 2 = _; rw [hF2.2 2 (by simp), e82]
  have g3 : (UA A2 8 4 (-1)) 8 3 = yku A a1 (P a2 0 - 1) := by show A2 8 3 = _; rw [hF2.2 3 (by simp), e83]
  refine L69j hd hW hT1 hG (hL2.c hE3.1) (by rw [g3]; omega) (by rw [g2]; omega) (hT2.c hE3 (fun j hj => rfl) hL.2.2.2.2) (fun A3 hR3 hF3 h84 => ⟨_, A3, P', rfl, rfl, ?_, hR3, hT1, rfl, ?_, ?_⟩) 4 0 _ rfl (rg_UA hR2 (by decide)) Fo.rf rfl
  · have hr := ksr_r (A := UA A2 8 4 (-1)) (k := P' 8 5 - 1) (b := P' 8 6 - 1) (s := P' 8 7 - 1) (by have := (hL2.c hE3.1).2.1.2.2.2.1; exact this) 4 (Nat.le_refl 4)
    have hc3 : ∀ c, 29 ≤ c → A3 c = UA A2 8 4 (-1) c := fun c h => hF3.1 c (by simp) (by omega)
    by_cases c : A3 8 4 = -1
    · rw [if_pos c]; decide
    · rw [if_neg c]
      have hL3 := (hL2.c hE3.1).c hc3
      have e3 : A3 8 3 = yku A a1 (P a2 0 - 1) := (hF3.2 3 (by decide)).trans g3
      exact rg_usd (x := A3 8 4) ⟨hL3, by omega, by omega⟩
  · rw [r5, r6, r7] at h84 hT2
    have hE4 : LyE (UA A2 8 4 (-1)) A3 := ⟨fun c h => hF3.1 c (by simp) (by omega), hF3.2 3 (by decide), hF3.1 10 (by simp) (by decide), hF3.2 2 (by decide)⟩
    have hT3 := (hT2.c hE3 (fun j hj => rfl) p4)
    have e9 : A3 9 = (UA A2 8 4 (-1)) 9 := hF3.1 9 (by simp) (by decide)
    refine ⟨?_, hE4.2.2.2.trans g2, hE4.2.1.trans g3, fun p hp => ?_, hT3.c hE4 (fun j _ => by rw [e9]) p4, ?_⟩
    · have F1 : Fo 8 [9, 10] [2, 3, 4] A A1 := f1.mono (by simp) (fun j h => by revert h; simp; omega)
      have F2 : Fo 8 [9, 10] [2, 3, 4] A1 (UA A2 8 4 (-1)) := (hF2.mono (by simp) (by simp)).fld (by decide)
      exact (F1.tr F2).tr (hF3.mono (by simp) (fun j h => by revert h; simp; omega))
    · rw [hE4.2.2.1]
      show A2 10 p = _
      rw [hF2.1 10 (by decide) (by decide)]
      exact e10 p hp
    · rw [h84, ksr_c hE4 p4]
  · rw [r5, r7]
