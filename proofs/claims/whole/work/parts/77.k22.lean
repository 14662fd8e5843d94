/-- what the cutter reads: what is left, what is needed -/
def KCp (A : Nat → Int → Int) : Prop := (∀ b : Int, 0 ≤ b → b < 4 → 0 ≤ A 13 b ∧ A 13 b ≤ 9999) ∧ ∀ n : Int, 0 ≤ n → n < 8 → A 12 n = -1 ∨ (0 ≤ A 12 n ∧ A 12 n ≤ 1000000)
abbrev kMay (A : Nat → Int → Int) (k c bt : Int) : Prop := A 11 4 < c + kMF A k ∨ (c + kMF A k = A 11 4 ∧ pc bt.toNat < A 11 5)
abbrev KcG : Type := (Nat → Int → Int) → Int → Int → Int → Nat → Int → Int
/-- KILT k is tried on the bolts from b on, r at most -/
def kCL (g : KcG) (nd k c bt : Int) : Nat → Int → (Nat → Int → Int) → Nat → Int → Int
  | 0, _, A => A
  | r + 1, b, A => if nd = -1 then A else kCL g nd k c bt r (b + 1) (if A 13 b < nd then A else UA (g (UA (UA A 13 b (A 13 b - nd)) 15 k b) (k + 1) (c + 1) (ior bt (ishl 1 b))) 13 b (g (UA (UA A 13 b (A 13 b - nd)) 15 k b) (k + 1) (c + 1) (ior bt (ishl 1 b)) 13 b + nd))
def kCF : Nat → KcG
  | 0, A, _, _, _ => A
  | f + 1, A, k, c, bt => if ¬ kMay A k c bt then A else if k < 8 then kCF f (UA (kCL (kCF f) (A 12 k) k c bt 4 0 A) 15 k (-1)) (k + 1) c bt else CA (UA (UA A 11 4 c) 11 5 (pc bt.toNat)) 15 14 0 0 8
abbrev KFr (A A' : Nat → Int → Int) : Prop := Fo 11 [14, 15] [4, 5] A A'
theorem KCp.c {A A' : Nat → Int → Int} (h : KCp A) (hF : KFr A A') : KCp A' := by
  unfold KCp
  rw [hF.1 13 (by decide) (by decide), hF.1 12 (by decide) (by decide)]
  exact h
theorem or_b {b bt : Int} (h : 0 ≤ bt ∧ bt < 16) (hb : 0 ≤ b ∧ b < 4) : 0 ≤ ior bt (ishl 1 b) ∧ ior bt (ishl 1 b) < 16 := by
  have := bOr_i bt.toNat (by omega) b.toNat (by omega)
  rw [show ((bt.toNat : Nat) : Int) = bt by omega, show ((b.toNat : Nat) : Int) = b by omega] at this
  rw [this.1]
  omega
/-- what the search keeps, and that its numbers are ints -/
def KGd (g : KcG) (f : Nat) : Prop := ∀ (A : Nat → Int → Int) (k c bt : Int), RG A → KCp A → (0 ≤ k ∧ k ≤ 8 ∧ k + f = 9) → (0 ≤ c ∧ c ≤ k) → (0 ≤ bt ∧ bt < 16) → KFr A (g A k c bt) ∧ RG (g A k c bt)
/-- one bolt -/
theorem kC1 {g : KcG} {f : Nat} (hg : KGd g f) {A : Nat → Int → Int} {k c bt b nd : Int} (hR : RG A) (hK : KCp A) (hk : 0 ≤ k ∧ k < 8 ∧ k + f = 8) (hc : 0 ≤ c ∧ c ≤ k) (hb : 0 ≤ bt ∧ bt < 16) (h4 : 0 ≤ b ∧ b < 4) (hn : 0 ≤ nd ∧ nd ≤ A 13 b) :
    KCp (UA (UA A 13 b (A 13 b - nd)) 15 k b) ∧ RG (UA (UA A 13 b (A 13 b - nd)) 15 k b) ∧ g (UA (UA A 13 b (A 13 b - nd)) 15 k b) (k + 1) (c + 1) (ior bt (ishl 1 b)) 13 b + nd = A 13 b ∧ KFr A (UA (g (UA (UA A 13 b (A 13 b - nd)) 15 k b) (k + 1) (c + 1) (ior bt (ishl 1 b))) 13 b (g (UA (UA A 13 b (A 13 b - nd)) 15 k b) (k + 1) (c + 1) (ior bt (ishl 1 b)) 13 b + nd)) ∧ RG (UA (g (UA (UA A 13 b (A 13 b - nd)) 15 k b) (k + 1) (c + 1) (ior bt (ishl 1 b))) 13 b (g (UA (UA A 13 b (A 13 b - nd)) 15 k b) (k + 1) (c + 1) (ior bt (ishl 1 b)) 13 b + nd)) := by
  have h13 := hK.1 b h4.1 h4.2
  have K1 : KCp (UA (UA A 13 b (A 13 b - nd)) 15 k b) := by
    refine ⟨fun i h0 h1 => ?_, fun n h0 h1 => ?_⟩
    · rw [UA_c (by decide)]
      by_cases e : i = b
      · subst e; rw [UA_eq]; omega
      · rw [UA_j e]; exact hK.1 i h0 h1
    · rw [UA_c (by decide), UA_c (by decide)]; exact hK.2 n h0 h1
  have R1 : RG (UA (UA A 13 b (A 13 b - nd)) 15 k b) := rg_UA (rg_UA hR ⟨by omega, by omega⟩) ⟨by omega, by omega⟩
  obtain ⟨F, RG1⟩ := hg _ (k + 1) (c + 1) (ior bt (ishl 1 b)) R1 K1 ⟨by omega, by omega, by omega⟩ ⟨by omega, by omega⟩ (or_b hb h4)
  generalize g (UA (UA A 13 b (A 13 b - nd)) 15 k b) (k + 1) (c + 1) (ior bt (ishl 1 b)) = G at *
  have e13 : G 13 = (UA (UA A 13 b (A 13 b - nd)) 15 k b) 13 := F.1 13 (by decide) (by decide)
  have eb : G 13 b + nd = A 13 b := by rw [e13, UA_c (by decide), UA_eq]; omega
  refine ⟨K1, R1, eb, ⟨fun q q1 q2 => ?_, fun j hj => ?_⟩, rg_UA RG1 (by rw [eb]; exact hR 13 b)⟩
  · by_cases e : q = 13
    · subst e
      funext j
      by_cases ej : j = b
      · subst ej; rw [UA_eq, eb]
      · rw [UA_j ej, e13, UA_c (by decide), UA_j ej]
    · funext j
      have q15 : ¬ q = 15 := fun z => q1 (by rw [z]; decide)
      rw [UA_c e, F.1 q q1 q2, UA_c q15, UA_c e]
  · rw [UA_c (by decide), F.2 j hj, UA_c (by decide), UA_c (by decide)]
theorem kCL_g {g : KcG} {f : Nat} (hg : KGd g f) {k c bt nd : Int} (hk : 0 ≤ k ∧ k < 8 ∧ k + f = 8) (hc : 0 ≤ c ∧ c ≤ k) (hb : 0 ≤ bt ∧ bt < 16) (hn : nd = -1 ∨ 0 ≤ nd) : ∀ (r : Nat) (b : Int) (A : Nat → Int → Int), 0 ≤ b → b + r = 4 → RG A → KCp A → KFr A (kCL g nd k c bt r b A) ∧ RG (kCL g nd k c bt r b A)
  | 0, b, A, _, _, hR, _ => ⟨Fo.rf, hR⟩
  | r + 1, b, A, h0, hr, hR, hK => by
    unfold kCL
    by_cases c1 : nd = -1
    · rw [if_pos c1]; exact ⟨Fo.rf, hR⟩
    · rw [if_neg c1]
      by_cases c2 : A 13 b < nd
      · rw [if_pos c2]; exact kCL_g hg hk hc hb hn r (b + 1) A (by omega) (by omega) hR hK
      · rw [if_neg c2]
        obtain ⟨-, -, -, F, R1⟩ := kC1 hg hR hK hk hc hb (b := b) (nd := nd) ⟨h0, by omega⟩ ⟨by omega, by omega⟩
        have := kCL_g hg hk hc hb hn r (b + 1) _ (by omega) (by omega) R1 (hK.c F)
        exact ⟨F.tr this.1, this.2⟩
theorem CA_c {A : Nat → Int → Int} {a b c : Nat} {x y n : Int} (h : ¬ c = b) : CA A a b x y n c = A c := by
  funext j
  unfold CA
  rw [if_neg (fun q => h q.1)]
theorem kCF_g : ∀ f : Nat, KGd (kCF f) f
  | 0 => fun A k c bt hR hK hk _ _ => absurd hk (by omega)
  | f + 1 => fun A k c bt hR hK hk hc hb => by
    have ih := kCF_g f
    unfold kCF
    by_cases c1 : kMay A k c bt
    · rw [if_neg (not_not_intro c1)]
      by_cases c2 : k < 8
      · rw [if_pos c2]
        have hn := hK.2 k hk.1 c2
        obtain ⟨F, R1⟩ := kCL_g ih (k := k) (c := c) (bt := bt) (nd := A 12 k) ⟨hk.1, c2, by omega⟩ hc hb (by omega) 4 0 A (Int.le_refl 0) rfl hR hK
        have F2 : KFr A (UA (kCL (kCF f) (A 12 k) k c bt 4 0 A) 15 k (-1)) := F.row (by decide) (by decide)
        obtain ⟨F3, R3⟩ := ih _ (k + 1) c bt (rg_UA R1 (by decide)) (hK.c F2) ⟨by omega, by omega, by omega⟩ ⟨by omega, by omega⟩ hb
        exact ⟨F2.tr F3, R3⟩
      · rw [if_neg c2]
        have hp := pc_b (bt := bt.toNat)
        refine ⟨⟨fun q q1 q2 => ?_, fun j hj => ?_⟩, rg_CA (rg_UA (rg_UA hR ⟨by omega, by omega⟩) ⟨by omega, by omega⟩)⟩
        · rw [CA_c (fun z => q1 (by rw [z]; decide))]
          funext j
          rw [UA_c q2, UA_c q2]
        · rw [CA_c (by decide), UA_j (fun z => hj (by rw [z]; decide)), UA_j (fun z => hj (by rw [z]; decide))]
    · rw [if_pos c1]; exact ⟨Fo.rf, hR⟩
theorem rg_kCF {f : Nat} {A : Nat → Int → Int} {k c bt : Int} (hR : RG A) (h : KCp A ∧ (0 ≤ k ∧ k ≤ 8 ∧ k + f = 9) ∧ (0 ≤ c ∧ c ≤ k) ∧ (0 ≤ bt ∧ bt < 16)) : RG (kCF f A k c bt) := (kCF_g f A k c bt hR h.1 h.2.1 h.2.2.1 h.2.2.2).2
theorem V111_0 {f d : Nat} (hd : f + 4 ≤ d) {Q : Option Value → xM → Prop} (S111 : ∀ {d : Nat} (hd : f + 4 ≤ d) {W : gW} (hW : HW W) {A : Nat → Int → Int} {P : Nat → Int → Nat} (hR : RG A) (hT : Stat W P) (hG : GL W) {x1 x2 x3 : Int} (rr : Rg x1 ∧ Rg x2 ∧ Rg x3) (hp : (KCp A) ∧ (0 ≤ x1 ∧ x1 ≤ 8 ∧ x1 + f = 9) ∧ (0 ≤ x2 ∧ x2 ≤ x1) ∧ (0 ≤ x3 ∧ x3 < 16)), xev xT d 111 [.ref (lo W 11), .int (iz x1), .int (iz x2), .int (iz x3)] (Wm W A P) none (Wm W (kCF f A x1 x2 x3) P)) {W : gW} (hW : HW W) {A : Nat → Int → Int} {P : Nat → Int → Nat} (hR : RG A) (hT : Stat W P) (hG : GL W) {x1 x2 x3 : Int} (rr : Rg x1 ∧ Rg x2 ∧ Rg x3) (h : (0 ≤ x1 ∧ x1 ≤ 8) ∧ (Rg (x2 + (kMF A x1))) ∧ (0 ≤ x3 ∧ x3 < 16) ∧ ((¬ (A 11 4 < (x2 + (kMF A x1)) ∨ ((x2 + (kMF A x1)) = A 11 4 ∧ pc (x3).toNat < A 11 5)) → Q none (Wm W A P)) ∧ ((A 11 4 < (x2 + (kMF A x1)) ∨ ((x2 + (kMF A x1)) = A 11 4 ∧ pc (x3).toNat < A 11 5)) → (((x1 < 8) → (0 ≤ x1 ∧ x1 < 8) ∧ wpE (xT 111) (xev xT d) Q (62, [(0, .ref (lo W 11)), (1, .int (iz x1)), (2, .int (iz x2)), (3, .int (iz x3)), (4, .int (iz (A 12 x1))), (5, .int (iz 0))], [], Wm W A P)) ∧ (¬ (x1 < 8) → (0 ≤ (0 : Int) ∧ 0 ≤ (0 : Int) ∧ 0 ≤ (8 : Int) ∧ (0 : Int) + 8 ≤ gL W 15 ∧ (0 : Int) + 8 ≤ gL W 14 ∧ (0 : Int) + 8 ≤ 2147483647 ∧ (0 : Int) + 8 ≤ 2147483647) ∧ Q none (Wm W (CA (UA (UA A 11 4 x2) 11 5 (pc (x3).toNat)) 15 14 0 0 8) P)))))) : wpE (xT 111) (xev xT d) Q (0, [(0, .ref (lo W 11)), (1, .int (iz x1)), (2, .int (iz x2)), (3, .int (iz x3))], [], Wm W A P) := by
  refine p_ald (cc3 c111_0) rfl ?_
  refine p_ild (cc3 c111_1) rfl ?_
  refine p_ald (cc3 c111_2) rfl ?_
  refine p_ild (cc3 c111_3) rfl ?_
  obtain ⟨g1, h⟩ := h
  refine p_callV (cc3 c111_4) (Nat.le_of_ble_eq_true rfl) rfl rfl (Nat.le_of_ble_eq_true rfl) (wk_kd hW (by decide) (st_k hT 11 2 (by decide))) (S112 (d := d) (by omega) hW hR hT hG rr.1 g1) ?_
  obtain ⟨g2, h⟩ := h
  refine (fun _ : Rg (x2 + (kMF A x1)) => i_add (cc3 c111_7) ?_) g2
  refine p_ild (cc3 c111_8) rfl ?_
  obtain ⟨g3, h⟩ := h
  refine p_callV (cc3 c111_9) (Nat.le_of_ble_eq_true rfl) rfl rfl (Nat.le_of_ble_eq_true rfl) (wk_kd hW (by decide) (st_k hT 11 2 (by decide))) (S113 (d := d) (by omega) hW hR hT hG ⟨g2, rr.2.2⟩ g3) ?_
  refine i_ifB (cc3 c111_12) (fun c => ?_) (fun c => ?_)
  · have h := h.1 c
    exact p_rv (cc3 c111_15) h
  · have h := h.2 c
    refine p_ild (cc3 c111_16) rfl ?_
    refine i_push (n := 8) (cc3 c111_17) zl_8 ?_
    refine i_icmp (c' := x1 < 8) (cc3 c111_19) (iz_lt rr.1 (by decide : Rg (8 : Int))) (fun c => ?_) (fun c => ?_)
    · have h := h.1 c
      refine p_ald (cc3 c111_51) rfl ?_
      refine w_getp hW hT.1 (b := 12) (cc3 c111_52) (st_k hT 11 2 (by decide)) (ji := 0) rfl (st_p hT 11 0 12 (by decide)) ?_
      refine p_ild (cc3 c111_55) rfl ?_
      obtain ⟨g4, h⟩ := h
      refine w_aldi hW (v := A 12 x1) (cc3 c111_56) (st_k hT 12 20 (by decide)) (st_i hT 12 8 (by decide) g4) rfl ?_
      refine p_ist (ls' := [(4, .int (iz (A 12 x1))), (0, .ref (lo W 11)), (1, .int (iz x1)), (2, .int (iz x2)), (3, .int (iz x3))]) (cc3 c111_57) (by decide) rfl ?_
      refine i_push (n := 0) (cc3 c111_59) zl_0 ?_
      refine p_ist (ls' := [(5, .int (iz 0)), (4, .int (iz (A 12 x1))), (0, .ref (lo W 11)), (1, .int (iz x1)), (2, .int (iz x2)), (3, .int (iz x3))]) (cc3 c111_60) (by decide) rfl ?_
      exact p_lc (ls' := [(0, .ref (lo W 11)), (1, .int (iz x1)), (2, .int (iz x2)), (3, .int (iz x3)), (4, .int (iz (A 12 x1))), (5, .int (iz 0))]) c111_62 rfl rfl h
    · have h := h.2 c
      refine p_ald (cc3 c111_22) rfl ?_
      refine p_ild (cc3 c111_23) rfl ?_
      refine id (α := Rg x2 → _) (fun _ => ?_) rr.2.1; refine w_puti hW (cc3 c111_24) (st_k hT 11 2 (by decide)) (ji := 4) rfl ?_
      refine p_ald (cc3 c111_27) rfl ?_
      refine p_ild (cc3 c111_28) rfl ?_
      refine p_callS (cc3 c111_29) (Nat.le_of_ble_eq_true rfl) rfl rfl (Nat.le_of_ble_eq_true rfl) (S114 (d := d) (by omega) rr.2.2 g3) ?_
      refine id (α := Rg (pc (x3).toNat) → _) (fun _ => ?_) (rg_pc g3); refine w_puti hW (cc3 c111_32) (st_k hT 11 2 (by decide)) (ji := 5) rfl ?_
      refine p_ald (cc3 c111_35) rfl ?_
      refine w_getp hW hT.1 (b := 15) (cc3 c111_36) (st_k hT 11 2 (by decide)) (ji := 3) rfl (st_p hT 11 3 15 (by decide)) ?_
      refine i_push (n := 0) (cc3 c111_39) zl_0 ?_
      refine p_ald (cc3 c111_40) rfl ?_
      refine w_getp hW hT.1 (b := 14) (cc3 c111_41) (st_k hT 11 2 (by decide)) (ji := 2) rfl (st_p hT 11 2 14 (by decide)) ?_
      refine i_push (n := 0) (cc3 c111_44) zl_0 ?_
      refine i_push (n := 8) (cc3 c111_45) zl_8 ?_
      obtain ⟨g4, h⟩ := h
      refine w_copy hW (cc3 c111_47) (st_k hT 14 20 (by decide)) (st_k hT 15 20 (by decide)) g4 (Nat.le_of_ble_eq_true rfl) ?_
      exact p_rv (cc3 c111_50) h
theorem V111_62 {f d : Nat} (hd : f + 4 ≤ d) {Q : Option Value → xM → Prop} (S111 : ∀ {d : Nat} (hd : f + 4 ≤ d) {W : gW} (hW : HW W) {A : Nat → Int → Int} {P : Nat → Int → Nat} (hR : RG A) (hT : Stat W P) (hG : GL W) {x1 x2 x3 : Int} (rr : Rg x1 ∧ Rg x2 ∧ Rg x3) (hp : (KCp A) ∧ (0 ≤ x1 ∧ x1 ≤ 8 ∧ x1 + f = 9) ∧ (0 ≤ x2 ∧ x2 ≤ x1) ∧ (0 ≤ x3 ∧ x3 < 16)), xev xT d 111 [.ref (lo W 11), .int (iz x1), .int (iz x2), .int (iz x3)] (Wm W A P) none (Wm W (kCF f A x1 x2 x3) P)) {W : gW} (hW : HW W) {A : Nat → Int → Int} {P : Nat → Int → Nat} (hR : RG A) (hT : Stat W P) (hG : GL W) {x1 x2 x3 x4 x5 : Int} (rr : Rg x1 ∧ Rg x2 ∧ Rg x3 ∧ Rg x4 ∧ Rg x5) (h : (((4 ≤ x5) → (0 ≤ x1 ∧ x1 < 8) ∧ (Rg (x1 + 1)) ∧ (KCp (UA A 15 x1 (-1))) ∧ (0 ≤ (x1 + 1) ∧ (x1 + 1) ≤ 8 ∧ (x1 + 1) + f = 9) ∧ (0 ≤ x2 ∧ x2 ≤ (x1 + 1)) ∧ (0 ≤ x3 ∧ x3 < 16) ∧ Q none (Wm W (kCF f (UA A 15 x1 (-1)) (x1 + 1) x2 x3) P)) ∧ (¬ (4 ≤ x5) → (((x4 = (-1)) → (0 ≤ x1 ∧ x1 < 8) ∧ (Rg (x1 + 1)) ∧ (KCp (UA A 15 x1 (-1))) ∧ (0 ≤ (x1 + 1) ∧ (x1 + 1) ≤ 8 ∧ (x1 + 1) + f = 9) ∧ (0 ≤ x2 ∧ x2 ≤ (x1 + 1)) ∧ (0 ≤ x3 ∧ x3 < 16) ∧ Q none (Wm W (kCF f (UA A 15 x1 (-1)) (x1 + 1) x2 x3) P)) ∧ (¬ (x4 = (-1)) → (0 ≤ x5 ∧ x5 < 4) ∧ ((((A 13 x5) < x4) → (Rg (x5 + 1)) ∧ wpE (xT 111) (xev xT d) Q (62, [(0, .ref (lo W 11)), (1, .int (iz x1)), (2, .int (iz x2)), (3, .int (iz x3)), (4, .int (iz x4)), (5, .int (iz (x5 + 1)))], [], Wm W A P)) ∧ (¬ ((A 13 x5) < x4) → (Rg ((A 13 x5) - x4)) ∧ (0 ≤ x1 ∧ x1 < 8) ∧ (Rg (x1 + 1)) ∧ (Rg (x2 + 1)) ∧ (KCp (UA (UA A 13 x5 ((A 13 x5) - x4)) 15 x1 x5)) ∧ (0 ≤ (x1 + 1) ∧ (x1 + 1) ≤ 8 ∧ (x1 + 1) + f = 9) ∧ (0 ≤ (x2 + 1) ∧ (x2 + 1) ≤ (x1 + 1)) ∧ (0 ≤ (ior x3 (ishl 1 x5)) ∧ (ior x3 (ishl 1 x5)) < 16) ∧ (Rg (((kCF f (UA (UA A 13 x5 ((A 13 x5) - x4)) 15 x1 x5) (x1 + 1) (x2 + 1) (ior x3 (ishl 1 x5))) 13 x5) + x4)) ∧ (Rg (x5 + 1)) ∧ wpE (xT 111) (xev xT d) Q (62, [(0, .ref (lo W 11)), (1, .int (iz x1)), (2, .int (iz x2)), (3, .int (iz x3)), (4, .int (iz x4)), (5, .int (iz (x5 + 1)))], [], Wm W (UA (kCF f (UA (UA A 13 x5 ((A 13 x5) - x4)) 15 x1 x5) (x1 + 1) (x2 + 1) (ior x3 (ishl 1 x5))) 13 x5 (((kCF f (UA (UA A 13 x5 ((A 13 x5) - x4)) 15 x1 x5) (x1 + 1) (x2 + 1) (ior x3 (ishl 1 x5))) 13 x5) + x4)) P)))))))) : wpE (xT 111) (xev xT d) Q (62, [(0, .ref (lo W 11)), (1, .int (iz x1)), (2, .int (iz x2)), (3, .int (iz x3)), (4, .int (iz x4)), (5, .int (iz x5))], [], Wm W A P) := by
  refine p_ild (cct c111_62 rfl) rfl ?_
  refine i_push (n := 4) (cc3 c111_64) zl_4 ?_
  refine i_icmp (c' := 4 ≤ x5) (cc3 c111_65) (iz_le (by decide : Rg (4 : Int)) rr.2.2.2.2) (fun c => ?_) (fun c => ?_)
  · have h := h.1 c
    refine p_lc (ls' := [(0, .ref (lo W 11)), (1, .int (iz x1)), (2, .int (iz x2)), (3, .int (iz x3))]) c111_140 rfl rfl ?_
    refine p_ald (cct c111_140 rfl) rfl ?_
    refine w_getp hW hT.1 (b := 15) (cc3 c111_141) (st_k hT 11 2 (by decide)) (ji := 3) rfl (st_p hT 11 3 15 (by decide)) ?_
    refine p_ild (cc3 c111_144) rfl ?_
    refine i_push (n := (-1)) (cc3 c111_145) zl_m1 ?_
    obtain ⟨g1, h⟩ := h
    refine id (α := Rg (-1) → _) (fun _ => ?_) (by decide : Rg (-1 : Int)); refine w_asti hW (cc3 c111_146) (st_k hT 15 20 (by decide)) (st_i hT 15 8 (by decide) g1) rfl ?_
    refine p_ald (cc3 c111_147) rfl ?_
    refine p_ild (cc3 c111_148) rfl ?_
    refine i_push (n := 1) (cc3 c111_149) zl_1 ?_
    obtain ⟨g2, h⟩ := h
    refine (fun _ : Rg (x1 + 1) => i_add (cc3 c111_150) ?_) g2
    refine p_ild (cc3 c111_151) rfl ?_
    refine p_ild (cc3 c111_152) rfl ?_
    obtain ⟨g3, h⟩ := h
    obtain ⟨g4, h⟩ := h
    obtain ⟨g5, h⟩ := h
    obtain ⟨g6, h⟩ := h
    refine p_callV (cc3 c111_153) (Nat.le_of_ble_eq_true rfl) rfl rfl (Nat.le_of_ble_eq_true rfl) (wk_kd hW (by decide) (st_k hT 11 2 (by decide))) (S111 (d := d) (by omega) hW (rg_UA hR (by decide : Rg (-1 : Int))) hT hG ⟨g2, rr.2.1, rr.2.2.1⟩ ⟨g3, g4, g5, g6⟩) ?_
    exact p_rv (cc3 c111_156) h
  · have h := h.2 c
    refine p_ild (cc3 c111_68) rfl ?_
    refine i_push (n := (-1)) (cc3 c111_70) zl_m1 ?_
    refine i_icmp (c' := x4 = (-1)) (cc3 c111_71) (iz_inj rr.2.2.2.1 (by decide : Rg (-1 : Int))) (fun c => ?_) (fun c => ?_)
    · have h := h.1 c
      refine p_lc (ls' := [(0, .ref (lo W 11)), (1, .int (iz x1)), (2, .int (iz x2)), (3, .int (iz x3))]) c111_140 rfl rfl ?_
      refine p_ald (cct c111_140 rfl) rfl ?_
      refine w_getp hW hT.1 (b := 15) (cc3 c111_141) (st_k hT 11 2 (by decide)) (ji := 3) rfl (st_p hT 11 3 15 (by decide)) ?_
      refine p_ild (cc3 c111_144) rfl ?_
      refine i_push (n := (-1)) (cc3 c111_145) zl_m1 ?_
      obtain ⟨g1, h⟩ := h
      refine id (α := Rg (-1) → _) (fun _ => ?_) (by decide : Rg (-1 : Int)); refine w_asti hW (cc3 c111_146) (st_k hT 15 20 (by decide)) (st_i hT 15 8 (by decide) g1) rfl ?_
      refine p_ald (cc3 c111_147) rfl ?_
      refine p_ild (cc3 c111_148) rfl ?_
      refine i_push (n := 1) (cc3 c111_149) zl_1 ?_
      obtain ⟨g2, h⟩ := h
      refine (fun _ : Rg (x1 + 1) => i_add (cc3 c111_150) ?_) g2
      refine p_ild (cc3 c111_151) rfl ?_
      refine p_ild (cc3 c111_152) rfl ?_
      obtain ⟨g3, h⟩ := h
      obtain ⟨g4, h⟩ := h
      obtain ⟨g5, h⟩ := h
      obtain ⟨g6, h⟩ := h
      refine p_callV (cc3 c111_153) (Nat.le_of_ble_eq_true rfl) rfl rfl (Nat.le_of_ble_eq_true rfl) (wk_kd hW (by decide) (st_k hT 11 2 (by decide))) (S111 (d := d) (by omega) hW (rg_UA hR (by decide : Rg (-1 : Int))) hT hG ⟨g2, rr.2.1, rr.2.2.1⟩ ⟨g3, g4, g5, g6⟩) ?_
      exact p_rv (cc3 c111_156) h
    · have h := h.2 c
      refine p_ild (cc3 c111_74) rfl ?_
      refine p_ald (cc3 c111_76) rfl ?_
      refine w_getp hW hT.1 (b := 13) (cc3 c111_77) (st_k hT 11 2 (by decide)) (ji := 1) rfl (st_p hT 11 1 13 (by decide)) ?_
      refine p_ild (cc3 c111_80) rfl ?_
      obtain ⟨g1, h⟩ := h
      refine w_aldi hW (v := A 13 x5) (cc3 c111_82) (st_k hT 13 20 (by decide)) (st_i hT 13 4 (by decide) g1) rfl ?_
      refine i_icmp (c' := (A 13 x5) < x4) (cc3 c111_83) (iz_lt (hR 13 x5) rr.2.2.2.1) (fun c => ?_) (fun c => ?_)
      · have h := h.1 c
        obtain ⟨g2, h⟩ := h
        refine (fun _ : Rg (x5 + 1) => i_iinc (n := 1) (y := x5 + 1) (ls' := [(5, .int (iz (x5 + 1))), (0, .ref (lo W 11)), (1, .int (iz x1)), (2, .int (iz x2)), (3, .int (iz x3)), (4, .int (iz x4))]) (cct c111_134 rfl) (by decide) rfl zl_1 (by first | rfl | omega) rfl ?_) g2
        refine p_goto (cc3 c111_137) ?_
        exact p_lc (ls' := [(0, .ref (lo W 11)), (1, .int (iz x1)), (2, .int (iz x2)), (3, .int (iz x3)), (4, .int (iz x4)), (5, .int (iz (x5 + 1)))]) c111_62 rfl rfl h
      · have h := h.2 c
        refine p_ald (cc3 c111_86) rfl ?_
        refine w_getp hW hT.1 (b := 13) (cc3 c111_87) (st_k hT 11 2 (by decide)) (ji := 1) rfl (st_p hT 11 1 13 (by decide)) ?_
        refine p_ild (cc3 c111_90) rfl ?_
        refine p_dup2 (cc3 c111_92) rfl rfl ?_
        refine w_aldi hW (v := A 13 x5) (cc3 c111_93) (st_k hT 13 20 (by decide)) (st_i hT 13 4 (by decide) g1) rfl ?_
        refine p_ild (cc3 c111_94) rfl ?_
        obtain ⟨g2, h⟩ := h
        refine (fun _ : Rg ((A 13 x5) - x4) => i_sub (cc3 c111_96) ?_) g2
        refine id (α := Rg ((A 13 x5) - x4) → _) (fun _ => ?_) g2; refine w_asti hW (cc3 c111_97) (st_k hT 13 20 (by decide)) (st_i hT 13 4 (by decide) g1) rfl ?_
        refine p_ald (cc3 c111_98) rfl ?_
        refine w_getp hW hT.1 (b := 15) (cc3 c111_99) (st_k hT 11 2 (by decide)) (ji := 3) rfl (st_p hT 11 3 15 (by decide)) ?_
        refine p_ild (cc3 c111_102) rfl ?_
        refine p_ild (cc3 c111_103) rfl ?_
        obtain ⟨g3, h⟩ := h
        refine id (α := Rg x5 → _) (fun _ => ?_) rr.2.2.2.2; refine w_asti hW (cc3 c111_105) (st_k hT 15 20 (by decide)) (st_i hT 15 8 (by decide) g3) rfl ?_
        refine p_ald (cc3 c111_106) rfl ?_
        refine p_ild (cc3 c111_107) rfl ?_
        refine i_push (n := 1) (cc3 c111_108) zl_1 ?_
        obtain ⟨g4, h⟩ := h
        refine (fun _ : Rg (x1 + 1) => i_add (cc3 c111_109) ?_) g4
        refine p_ild (cc3 c111_110) rfl ?_
        refine i_push (n := 1) (cc3 c111_111) zl_1 ?_
        obtain ⟨g5, h⟩ := h
        refine (fun _ : Rg (x2 + 1) => i_add (cc3 c111_112) ?_) g5
        refine p_ild (cc3 c111_113) rfl ?_
        refine i_push (n := 1) (cc3 c111_114) zl_1 ?_
        refine p_ild (cc3 c111_115) rfl ?_
        refine i_op (z := ishl 1 x5) (cc3 c111_117) (iz_of _).symm ?_
        refine i_op (z := ior x3 (ishl 1 x5)) (cc3 c111_118) (iz_of _).symm ?_
        obtain ⟨g6, h⟩ := h
        obtain ⟨g7, h⟩ := h
        obtain ⟨g8, h⟩ := h
        obtain ⟨g9, h⟩ := h
        refine p_callV (cc3 c111_119) (Nat.le_of_ble_eq_true rfl) rfl rfl (Nat.le_of_ble_eq_true rfl) (wk_kd hW (by decide) (st_k hT 11 2 (by decide))) (S111 (d := d) (by omega) hW (rg_UA (rg_UA hR g2) rr.2.2.2.2) hT hG ⟨g4, g5, rg_ior⟩ ⟨g6, g7, g8, g9⟩) ?_
        refine p_ald (cc3 c111_122) rfl ?_
        refine w_getp hW hT.1 (b := 13) (cc3 c111_123) (st_k hT 11 2 (by decide)) (ji := 1) rfl (st_p hT 11 1 13 (by decide)) ?_
        refine p_ild (cc3 c111_126) rfl ?_
        refine p_dup2 (cc3 c111_128) rfl rfl ?_
        refine w_aldi hW (v := (kCF f (UA (UA A 13 x5 ((A 13 x5) - x4)) 15 x1 x5) (x1 + 1) (x2 + 1) (ior x3 (ishl 1 x5))) 13 x5) (cc3 c111_129) (st_k hT 13 20 (by decide)) (st_i hT 13 4 (by decide) g1) rfl ?_
        refine p_ild (cc3 c111_130) rfl ?_
        obtain ⟨g10, h⟩ := h
        refine (fun _ : Rg (((kCF f (UA (UA A 13 x5 ((A 13 x5) - x4)) 15 x1 x5) (x1 + 1) (x2 + 1) (ior x3 (ishl 1 x5))) 13 x5) + x4) => i_add (cc3 c111_132) ?_) g10
        refine id (α := Rg (((kCF f (UA (UA A 13 x5 ((A 13 x5) - x4)) 15 x1 x5) (x1 + 1) (x2 + 1) (ior x3 (ishl 1 x5))) 13 x5) + x4) → _) (fun _ => ?_) g10; refine w_asti hW (cc3 c111_133) (st_k hT 13 20 (by decide)) (st_i hT 13 4 (by decide) g1) rfl ?_
        obtain ⟨g11, h⟩ := h
        refine (fun _ : Rg (x5 + 1) => i_iinc (n := 1) (y := x5 + 1) (ls' := [(5, .int (iz (x5 + 1))), (0, .ref (lo W 11)), (1, .int (iz x1)), (2, .int (iz x2)), (3, .int (iz x3)), (4, .int (iz x4))]) (cct c111_134 rfl) (by decide) rfl zl_1 (by first | rfl | omega) rfl ?_) g11
        refine p_goto (cc3 c111_137) ?_
        exact p_lc (ls' := [(0, .ref (lo W 11)), (1, .int (iz x1)), (2, .int (iz x2)), (3, .int (iz x3)), (4, .int (iz x4)), (5, .int (iz (x5 + 1)))]) c111_62 rfl rfl h
theorem L111 {d f : Nat} (hd : f + 4 ≤ d) (S111 : ∀ {d : Nat} (hd : f + 4 ≤ d) {W : gW} (hW : HW W) {A : Nat → Int → Int} {P : Nat → Int → Nat} (hR : RG A) (hT : Stat W P) (hG : GL W) {x1 x2 x3 : Int} (rr : Rg x1 ∧ Rg x2 ∧ Rg x3) (hp : (KCp A) ∧ (0 ≤ x1 ∧ x1 ≤ 8 ∧ x1 + f = 9) ∧ (0 ≤ x2 ∧ x2 ≤ x1) ∧ (0 ≤ x3 ∧ x3 < 16)), xev xT d 111 [.ref (lo W 11), .int (iz x1), .int (iz x2), .int (iz x3)] (Wm W A P) none (Wm W (kCF f A x1 x2 x3) P)) {Q : Option Value → xM → Prop} {W : gW} (hW : HW W) {P : Nat → Int → Nat} (hT : Stat W P) (hG : GL W) {k c bt nd : Int} (hk : 0 ≤ k ∧ k < 8 ∧ k + f = 8) (hc : 0 ≤ c ∧ c ≤ k) (hb : 0 ≤ bt ∧ bt < 16) (hn : nd = -1 ∨ 0 ≤ nd ∧ nd ≤ 1000000) :
    ∀ (r : Nat) (b : Int) (A : Nat → Int → Int), 0 ≤ b → b + r = 4 → RG A → KCp A → Q none (Wm W (kCF f (UA (kCL (kCF f) nd k c bt r b A) 15 k (-1)) (k + 1) c bt) P) → wpE (xT 111) (xev xT d) Q (62, [(0, .ref (lo W 11)), (1, .int (iz k)), (2, .int (iz c)), (3, .int (iz bt)), (4, .int (iz nd)), (5, .int (iz b))], [], Wm W A P) := by
  have k15 : ∀ {A : Nat → Int → Int}, KCp A → KCp (UA A 15 k (-1)) := fun h => h.c (Fo.rf.row (by decide) (by decide))
  intro r
  induction r with
  | zero =>
    intro b A h0 hr hR hK hQ
    exact V111_62 hd S111 hW hR hT hG ⟨⟨by omega, by omega⟩, ⟨by omega, by omega⟩, ⟨by omega, by omega⟩, ⟨by omega, by omega⟩, ⟨by omega, by omega⟩⟩ ⟨fun _ => ⟨⟨by omega, by omega⟩, ⟨by omega, by omega⟩, k15 hK, ⟨by omega, by omega, by omega⟩, ⟨by omega, by omega⟩, hb, hQ⟩, fun z => absurd (by omega) z⟩
  | succ r ih =>
    intro b A h0 hr hR hK hQ
    unfold kCL at hQ
    refine V111_62 hd S111 hW hR hT hG ⟨⟨by omega, by omega⟩, ⟨by omega, by omega⟩, ⟨by omega, by omega⟩, ⟨by omega, by omega⟩, ⟨by omega, by omega⟩⟩ ⟨fun z => absurd z (by omega), fun _ => ⟨fun c1 => ?_, fun c1 => ⟨⟨by omega, by omega⟩, fun c2 => ⟨⟨by omega, by omega⟩, ?_⟩, fun c2 => ?_⟩⟩⟩
    · rw [if_pos c1] at hQ
      exact ⟨⟨by omega, by omega⟩, ⟨by omega, by omega⟩, k15 hK, ⟨by omega, by omega, by omega⟩, ⟨by omega, by omega⟩, hb, hQ⟩
    · rw [if_neg c1, if_pos c2] at hQ
      exact ih (b + 1) A (by omega) (by omega) hR hK hQ
    · rw [if_neg c1, if_neg c2] at hQ
      have h13 := hK.1 b h0 (by omega)
      obtain ⟨K1, -, e1, F, R1⟩ := kC1 (kCF_g f) hR hK hk hc hb (b := b) (nd := nd) ⟨h0, by omega⟩ ⟨by omega, by omega⟩
      exact ⟨⟨by omega, by omega⟩, ⟨by omega, by omega⟩, ⟨by omega, by omega⟩, ⟨by omega, by omega⟩, K1, ⟨by omega, by omega, by omega⟩, ⟨by omega, by omega⟩, or_b hb ⟨h0, by omega⟩, by rw [e1]; exact hR 13 b, ⟨by omega, by omega⟩, ih (b + 1) _ (by omega) (by omega) R1 (hK.c F) hQ⟩
theorem S111r : ∀ (f : Nat) {d : Nat} (hd : f + 4 ≤ d) {W : gW} (hW : HW W) {A : Nat → Int → Int} {P : Nat → Int → Nat} (hR : RG A) (hT : Stat W P) (hG : GL W) {x1 x2 x3 : Int} (rr : Rg x1 ∧ Rg x2 ∧ Rg x3) (hp : (KCp A) ∧ (0 ≤ x1 ∧ x1 ≤ 8 ∧ x1 + f = 9) ∧ (0 ≤ x2 ∧ x2 ≤ x1) ∧ (0 ≤ x3 ∧ x3 < 16)), xev xT d 111 [.ref (lo W 11), .int (iz x1), .int (iz x2), .int (iz x3)] (Wm W A P) none (Wm W (kCF f A x1 x2 x3) P) := by
  intro f
  induction f with
  | zero => intro d hd W hW A P hR hT hG x1 x2 x3 rr hp; exact absurd hp.2.1 (by omega)
  | succ f ih =>
    intro d hd W hW A P hR hT hG x1 x2 x3 rr hp
    obtain ⟨p1, p2, p3, p4⟩ := hp
    refine xev_i (D := f + 4) hd (Nat.le_of_ble_eq_true rfl) (fun d hd => V111_0 hd ih hW hR hT hG rr ?_)
    have hm : 0 ≤ kMF A x1 ∧ kMF A x1 ≤ _ := kmC_b (A := A) (R := kRm A 4) (8 - x1).toNat x1
    have h15 := hT.2.1 15 (by decide)
    have h14 := hT.2.1 14 (by decide)
    have l15 : gL W 15 = 8 := h15.2.1
    have l14 : gL W 14 = 8 := h14.2.1
    refine ⟨⟨by omega, by omega⟩, ⟨by omega, by omega⟩, p4, fun c => ⟨rfl, ?_⟩, fun c => ⟨fun c2 => ⟨⟨by omega, by omega⟩, ?_⟩, fun c2 => ⟨⟨by omega, by omega, by omega, by omega, by omega, by omega, by omega⟩, rfl, ?_⟩⟩⟩
    · conv => rhs; unfold kCF
      rw [if_pos c]
    · have hn := p1.2 x1 p2.1 c2
      refine L111 hd ih hW hT hG (k := x1) (c := x2) (bt := x3) (nd := A 12 x1) ⟨by omega, by omega, by omega⟩ p3 p4 (by omega) 4 0 A (Int.le_refl 0) rfl hR p1 ⟨rfl, ?_⟩
      conv => rhs; unfold kCF
      rw [if_neg (not_not_intro c), if_pos c2]
    · conv => rhs; unfold kCF
      rw [if_neg (not_not_intro c), if_neg c2]
theorem S111 {d : Nat} (hd : 13 ≤ d) {W : gW} (hW : HW W) {A : Nat → Int → Int} {P : Nat → Int → Nat} (hR : RG A) (hT : Stat W P) (hG : GL W) {x1 x2 x3 : Int} (rr : Rg x1 ∧ Rg x2 ∧ Rg x3) (hp : (KCp A) ∧ (0 ≤ x1 ∧ x1 ≤ 8 ∧ x1 + 9 = 9) ∧ (0 ≤ x2 ∧ x2 ≤ x1) ∧ (0 ≤ x3 ∧ x3 < 16)) : xev xT d 111 [.ref (lo W 11), .int (iz x1), .int (iz x2), .int (iz x3)] (Wm W A P) none (Wm W (kCF 9 A x1 x2 x3) P) := S111r 9 hd hW hR hT hG rr hp
/-- the whole cutting -/
def kCA (A : Nat → Int → Int) : Nat → Int → Int := kCF 9 (UA (UA A 11 4 (-1)) 11 5 0) 0 0 0
theorem KCp.i {A : Nat → Int → Int} (h : KCp A) : KCp (UA (UA A 11 4 (-1)) 11 5 0) := h.c ((Fo.rf.fld (by decide)).fld (by decide))
theorem rg_kCA {A : Nat → Int → Int} (hR : RG A) (h : KCp A) : RG (kCA A) := rg_kCF (rg_UA (rg_UA hR (by decide)) (by decide)) ⟨h.i, by decide, by decide, by decide⟩
theorem V110_0 {d : Nat} (hd : 13 ≤ d) {Q : Option Value → xM → Prop} {W : gW} (hW : HW W) {A : Nat → Int → Int} {P : Nat → Int → Nat} (hR : RG A) (hT : Stat W P) (hG : GL W) (h : (KCp (UA (UA A 11 4 (-1)) 11 5 0)) ∧ (0 ≤ (0 : Int) ∧ (0 : Int) ≤ 8 ∧ (0 : Int) + 9 = 9) ∧ (0 ≤ (0 : Int) ∧ (0 : Int) ≤ (0 : Int)) ∧ (0 ≤ (0 : Int) ∧ (0 : Int) < 16) ∧ Q (some (.int (iz ((kCF 9 (UA (UA A 11 4 (-1)) 11 5 0) 0 0 0) 11 4)))) (Wm W (kCF 9 (UA (UA A 11 4 (-1)) 11 5 0) 0 0 0) P)) : wpE (xT 110) (xev xT d) Q (0, [(0, .ref (lo W 11))], [], Wm W A P) := by
  refine p_ald (cc3 c110_0) rfl ?_
  refine i_push (n := (-1)) (cc3 c110_1) zl_m1 ?_
  refine id (α := Rg (-1) → _) (fun _ => ?_) (by decide : Rg (-1 : Int)); refine w_puti hW (cc3 c110_2) (st_k hT 11 2 (by decide)) (ji := 4) rfl ?_
  refine p_ald (cc3 c110_5) rfl ?_
  refine i_push (n := 0) (cc3 c110_6) zl_0 ?_
  refine id (α := Rg 0 → _) (fun _ => ?_) (by decide : Rg (0 : Int)); refine w_puti hW (cc3 c110_7) (st_k hT 11 2 (by decide)) (ji := 5) rfl ?_
  refine p_ald (cc3 c110_10) rfl ?_
  refine i_push (n := 0) (cc3 c110_11) zl_0 ?_
  refine i_push (n := 0) (cc3 c110_12) zl_0 ?_
  refine i_push (n := 0) (cc3 c110_13) zl_0 ?_
  obtain ⟨g1, h⟩ := h
  obtain ⟨g2, h⟩ := h
  obtain ⟨g3, h⟩ := h
  obtain ⟨g4, h⟩ := h
  refine p_callV (cc3 c110_14) (Nat.le_of_ble_eq_true rfl) rfl rfl (Nat.le_of_ble_eq_true rfl) (wk_kd hW (by decide) (st_k hT 11 2 (by decide))) (S111 (Nat.le_trans (by decide) hd) hW (rg_UA (rg_UA hR (by decide : Rg (-1 : Int))) (by decide : Rg (0 : Int))) hT hG ⟨(by decide : Rg (0 : Int)), (by decide : Rg (0 : Int)), (by decide : Rg (0 : Int))⟩ ⟨g1, g2, g3, g4⟩) ?_
  refine p_ald (cc3 c110_17) rfl ?_
  refine w_geti hW (v := (kCF 9 (UA (UA A 11 4 (-1)) 11 5 0) 0 0 0) 11 4) (cc3 c110_18) (st_k hT 11 2 (by decide)) (ji := 4) rfl rfl ?_
  exact p_ri (cc3 c110_21) trivial h
theorem S110 {d : Nat} (hd : 14 ≤ d) {W : gW} (hW : HW W) {A : Nat → Int → Int} {P : Nat → Int → Nat} (hR : RG A) (hT : Stat W P) (hG : GL W) (hp : (KCp A)) : xev xT d 110 [.ref (lo W 11)] (Wm W A P) (some (.int (iz (kCA A 11 4)))) (Wm W (kCA A) P) := by
  refine xev_i (D := 13) hd (Nat.le_of_ble_eq_true rfl) (fun d hd => V110_0 hd hW hR hT hG ?_)

  exact ⟨hp.i, by decide, by decide, by decide, rfl, rfl⟩
