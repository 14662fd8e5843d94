abbrev BX : Type := Int × Int × (Nat → Int)
def bxU (c bt : Int) (tr : Nat → Int) (X : BX) : BX := if X.1 < c ∨ (c = X.1 ∧ pc bt.toNat < X.2.1) then (c, pc bt.toNat, tr) else X
def lset (l : Int → Int) (b v : Int) : Int → Int := fun j => if j = b then v else l j
def tset (tr : Nat → Int) (k v : Int) : Nat → Int := fun j => if (j : Int) = k then v else tr j
abbrev BXg : Type := (Int → Int) → Int → Int → (Nat → Int) → BX → BX
def kX1 (g : BXg) (nd k : Int) (l : Int → Int) (c bt : Int) (tr : Nat → Int) (b : Int) (X : BX) : BX := if ¬ nd = -1 ∧ nd ≤ l b then g (lset l b (l b - nd)) (c + 1) (ior bt (ishl 1 b)) (tset tr k b) X else X
def kXL (g : BXg) (nd k : Int) (l : Int → Int) (c bt : Int) (tr : Nat → Int) : Nat → Int → BX → BX
  | 0, _, X => X
  | r + 1, b, X => kXL g nd k l c bt tr r (b + 1) (kX1 g nd k l c bt tr b X)
/-- every way from KILT k on, the first best of them -/
def kEx (nd : Int → Int) : Nat → Int → BXg
  | 0, _, _, c, bt, tr, X => bxU c bt tr X
  | r + 1, k, l, c, bt, tr, X => kEx nd r (k + 1) l c bt (tset tr k (-1)) (kXL (kEx nd r (k + 1)) (nd k) k l c bt tr 4 0 X)
theorem pc_or {b bt : Int} (h : 0 ≤ bt ∧ bt < 16) (hb : 0 ≤ b ∧ b < 4) : pc bt.toNat ≤ pc (ior bt (ishl 1 b)).toNat := by
  have e := bOr_i bt.toNat (by omega) b.toNat (by omega)
  rw [show ((bt.toNat : Nat) : Int) = bt by omega, show ((b.toNat : Nat) : Int) = b by omega] at e
  rw [e.1, Int.toNat_natCast]
  have : ∀ n : Nat, n < 16 → ∀ m : Nat, m < 4 → pc n ≤ pc (bOr n m) := by decide
  exact this bt.toNat (by omega) b.toNat (by omega)
theorem kEx_p {A : Nat → Int → Int} {R : Int} : ∀ (r : Nat) (k : Int) (l : Int → Int) (c bt : Int) (tr : Nat → Int) (X : BX), (∀ b : Int, 0 ≤ b → b < 4 → l b ≤ R) → (∀ n : Int, k ≤ n → n < k + r → A 12 n = -1 ∨ 0 ≤ A 12 n) → (0 ≤ bt ∧ bt < 16) → ¬ (X.1 < c + kmC A R r k ∨ (c + kmC A R r k = X.1 ∧ pc bt.toNat < X.2.1)) → kEx (A 12) r k l c bt tr X = X
  | 0, k, l, c, bt, tr, X, _, _, _, h => by
    have e : kmC A R 0 k = 0 := rfl
    rw [e, Int.add_zero] at h
    exact if_neg h
  | r + 1, k, l, c, bt, tr, X, hl, hn, hb, h => by
    have e : kmC A R (r + 1) k = (if ¬ A 12 k = -1 ∧ A 12 k ≤ R then 1 else 0) + kmC A R r (k + 1) := rfl
    have one : ∀ b : Int, 0 ≤ b → b < 4 → kX1 (kEx (A 12) r (k + 1)) (A 12 k) k l c bt tr b X = X := fun b b0 b4 => by
      unfold kX1
      by_cases q : ¬ A 12 k = -1 ∧ A 12 k ≤ l b
      · rw [if_pos q]
        have hlb := hl b b0 b4
        have hp := pc_or hb ⟨b0, b4⟩
        have hk := hn k (Int.le_refl k) (by omega)
        rw [if_pos ⟨q.1, by omega⟩] at e
        refine kEx_p (A := A) (R := R) r (k + 1) _ (c + 1) _ _ X (fun i i0 i4 => ?_) (fun n n0 n1 => hn n (by omega) (by omega)) (or_b hb ⟨b0, b4⟩) (fun z => h ?_)
        · unfold lset
          by_cases ei : i = b
          · rw [if_pos ei]; omega
          · rw [if_neg ei]; exact hl i i0 i4
        · rw [e]; omega
      · rw [if_neg q]
    have eL : kXL (kEx (A 12) r (k + 1)) (A 12 k) k l c bt tr 4 0 X = X := by
      show kX1 (kEx (A 12) r (k + 1)) (A 12 k) k l c bt tr (0 + 1 + 1 + 1) (kX1 (kEx (A 12) r (k + 1)) (A 12 k) k l c bt tr (0 + 1 + 1) (kX1 (kEx (A 12) r (k + 1)) (A 12 k) k l c bt tr (0 + 1) (kX1 (kEx (A 12) r (k + 1)) (A 12 k) k l c bt tr 0 X))) = X
      rw [one 0 (by decide) (by decide), one (0 + 1) (by decide) (by decide), one (0 + 1 + 1) (by decide) (by decide), one (0 + 1 + 1 + 1) (by decide) (by decide)]
    show kEx (A 12) r (k + 1) l c bt (tset tr k (-1)) (kXL (kEx (A 12) r (k + 1)) (A 12 k) k l c bt tr 4 0 X) = X
    rw [eL]
    refine kEx_p (A := A) (R := R) r (k + 1) l c bt _ X hl (fun n n0 n1 => hn n (by omega) (by omega)) hb (fun z => h ?_)
    rw [e]
    split <;> omega
def XE (A : Nat → Int → Int) (X : BX) : Prop := A 11 4 = X.1 ∧ A 11 5 = X.2.1 ∧ ∀ j : Nat, j < 8 → A 14 j = X.2.2 j
theorem kRm_le {A : Nat → Int → Int} {b : Int} (h : 0 ≤ b ∧ b < 4) : A 13 b ≤ kRm A 4 := by
  have e : kRm A 4 = max (max (max (max 0 (A 13 0)) (A 13 1)) (A 13 2)) (A 13 3) := rfl
  rcases (by omega : b = 0 ∨ b = 1 ∨ b = 2 ∨ b = 3) with z | z | z | z <;> subst z <;> omega
/-- g does what gx says, at level k -/
def KXs (g : KcG) (gx : BXg) (nd : Int → Int) (k : Int) : Prop := ∀ (A : Nat → Int → Int) (c bt : Int) (tr : Nat → Int) (X : BX), RG A → KCp A → A 12 = nd → (0 ≤ c ∧ c ≤ k) → (0 ≤ bt ∧ bt < 16) → XE A X → (∀ j : Nat, (j : Int) < k → A 15 j = tr j) → XE (g A k c bt) (gx (A 13) c bt tr X) ∧ ∀ j : Nat, (j : Int) < k → g A k c bt 15 j = A 15 j
theorem kCL_X {g : KcG} {gx : BXg} {f : Nat} (hg : KGd g f) {nd : Int → Int} {k c bt : Int} (hX : KXs g gx nd (k + 1)) (hk : 0 ≤ k ∧ k < 8 ∧ k + f = 8) (hc : 0 ≤ c ∧ c ≤ k) (hb : 0 ≤ bt ∧ bt < 16) (hn : nd k = -1 ∨ 0 ≤ nd k) {l : Int → Int} {tr : Nat → Int} : ∀ (r : Nat) (b : Int) (A : Nat → Int → Int) (X : BX), 0 ≤ b → b + r = 4 → RG A → KCp A → A 12 = nd → A 13 = l → XE A X → (∀ j : Nat, (j : Int) < k → A 15 j = tr j) → XE (kCL g (nd k) k c bt r b A) (kXL gx (nd k) k l c bt tr r b X) ∧ ∀ j : Nat, (j : Int) < k → kCL g (nd k) k c bt r b A 15 j = A 15 j
  | 0, b, A, X, _, _, _, _, _, _, hE, _ => ⟨hE, fun _ _ => rfl⟩
  | r + 1, b, A, X, h0, hr, hR, hK, h12, h13, hE, ht => by
    show XE (if nd k = -1 then A else kCL g (nd k) k c bt r (b + 1) (if A 13 b < nd k then A else _)) (kXL gx (nd k) k l c bt tr r (b + 1) (if ¬ nd k = -1 ∧ nd k ≤ l b then _ else X)) ∧ ∀ j : Nat, (j : Int) < k → (if nd k = -1 then A else kCL g (nd k) k c bt r (b + 1) (if A 13 b < nd k then A else _)) 15 j = A 15 j
    by_cases c1 : nd k = -1
    · rw [if_pos c1, if_neg (fun q => q.1 c1)]
      have stay : ∀ (r : Nat) (b : Int), kXL gx (nd k) k l c bt tr r b X = X := by
        intro r
        induction r with
        | zero => intro b; rfl
        | succ r ih =>
          intro b
          show kXL gx (nd k) k l c bt tr r (b + 1) (if ¬ nd k = -1 ∧ nd k ≤ l b then _ else X) = X
          rw [if_neg (fun q => q.1 c1)]
          exact ih (b + 1)
      rw [stay]
      exact ⟨hE, fun _ _ => rfl⟩
    · rw [if_neg c1]
      by_cases c2 : A 13 b < nd k
      · rw [if_pos c2, if_neg (fun q => by have := q.2; rw [← h13] at this; omega)]
        exact kCL_X hg hX hk hc hb hn r (b + 1) A X (by omega) (by omega) hR hK h12 h13 hE ht
      · rw [if_neg c2, if_pos ⟨c1, by rw [← h13]; omega⟩]
        obtain ⟨K1, R1, e1, F, RG1⟩ := kC1 hg hR hK hk hc hb (b := b) (nd := nd k) ⟨h0, by omega⟩ ⟨by omega, by omega⟩
        have q := hX (UA (UA A 13 b (A 13 b - nd k)) 15 k b) (c + 1) (ior bt (ishl 1 b)) (tset tr k b) X R1 K1 h12 ⟨by omega, by omega⟩ (or_b hb ⟨h0, by omega⟩) hE (fun j hj => by
          unfold tset
          by_cases e : (j : Int) = k
          · rw [if_pos e, e, UA_eq]
          · rw [if_neg e, UA_j e, UA_c (by decide)]; exact ht j (by omega))
        have el : (UA (UA A 13 b (A 13 b - nd k)) 15 k b) 13 = lset l b (l b - nd k) := by
          funext j
          rw [UA_c (by decide), ← h13]
          unfold lset
          by_cases e : j = b
          · rw [if_pos e, e, UA_eq]
          · rw [if_neg e, UA_j e]
        rw [el] at q
        obtain ⟨q1, q2⟩ := q
        have k15 : ∀ j : Nat, (j : Int) < k → UA (g (UA (UA A 13 b (A 13 b - nd k)) 15 k b) (k + 1) (c + 1) (ior bt (ishl 1 b))) 13 b (g (UA (UA A 13 b (A 13 b - nd k)) 15 k b) (k + 1) (c + 1) (ior bt (ishl 1 b)) 13 b + nd k) 15 j = A 15 j := fun j hj => by
          rw [UA_c (by decide), q2 j (by omega), UA_j (by omega), UA_c (by decide)]
        have z := kCL_X hg hX hk hc hb hn r (b + 1) _ _ (by omega) (by omega) RG1 (hK.c F) ((F.1 12 (by decide) (by decide)).trans h12) ((F.1 13 (by decide) (by decide)).trans h13) (show XE (UA (g (UA (UA A 13 b (A 13 b - nd k)) 15 k b) (k + 1) (c + 1) (ior bt (ishl 1 b))) 13 b (g (UA (UA A 13 b (A 13 b - nd k)) 15 k b) (k + 1) (c + 1) (ior bt (ishl 1 b)) 13 b + nd k)) _ from q1) (fun j hj => (k15 j hj).trans (ht j hj))
        exact ⟨z.1, fun j hj => (z.2 j hj).trans (k15 j hj)⟩
theorem kCF_X {nd : Int → Int} : ∀ (f : Nat) (k : Int), 0 ≤ k ∧ k ≤ 8 ∧ k + f = 8 → KXs (kCF (f + 1)) (kEx nd f k) nd k
  | f, k, hk => fun A c bt tr X hR hK h12 hc hb hE ht => by
    have hmay : ¬ kMay A k c bt → kEx nd f k (A 13) c bt tr X = X := fun q => by
      rw [← h12]
      refine kEx_p (A := A) (R := kRm A 4) f k (A 13) c bt tr X (fun b b0 b4 => kRm_le ⟨b0, b4⟩) (fun n n0 n1 => by have := hK.2 n (by omega) (by omega); omega) hb ?_
      have e : kMF A k = kmC A (kRm A 4) f k := by show kmC A (kRm A 4) (8 - k).toNat k = _; rw [show (8 - k).toNat = f by omega]
      rw [← e, ← hE.1, ← hE.2.1]
      exact q
    by_cases c1 : kMay A k c bt
    · by_cases c2 : k < 8
      · obtain ⟨f, rfl⟩ : ∃ f', f = f' + 1 := ⟨f - 1, by omega⟩
        have hn := hK.2 k hk.1 c2
        have ih := kCF_X (nd := nd) f (k + 1) ⟨by omega, by omega, by omega⟩
        have e1 : kCF (f + 1 + 1) A k c bt = kCF (f + 1) (UA (kCL (kCF (f + 1)) (A 12 k) k c bt 4 0 A) 15 k (-1)) (k + 1) c bt := by
          conv => lhs; unfold kCF
          rw [if_neg (not_not_intro c1), if_pos c2]
        have e2 : kEx nd (f + 1) k (A 13) c bt tr X = kEx nd f (k + 1) (A 13) c bt (tset tr k (-1)) (kXL (kEx nd f (k + 1)) (nd k) k (A 13) c bt tr 4 0 X) := rfl
        obtain ⟨F, R1⟩ := kCL_g (kCF_g (f + 1)) (k := k) (c := c) (bt := bt) (nd := A 12 k) ⟨hk.1, c2, by omega⟩ hc hb (by omega) 4 0 A (Int.le_refl 0) rfl hR hK
        obtain ⟨x1, x2⟩ := kCL_X (kCF_g (f + 1)) (nd := nd) (k := k) (c := c) (bt := bt) ih ⟨hk.1, c2, by omega⟩ hc hb (by rw [← h12]; omega) (l := A 13) (tr := tr) 4 0 A X (Int.le_refl 0) rfl hR hK h12 rfl hE ht
        rw [h12] at e1 F R1
        rw [e1, e2]
        generalize kCL (kCF (f + 1)) (nd k) k c bt 4 0 A = B at *
        generalize kXL (kEx nd f (k + 1)) (nd k) k (A 13) c bt tr 4 0 X = Y at *
        have F2 : KFr A (UA B 15 k (-1)) := F.row (by decide) (by decide)
        have q := ih (UA B 15 k (-1)) c bt (tset tr k (-1)) Y (rg_UA R1 (by decide)) (hK.c F2) ((F2.1 12 (by decide) (by decide)).trans h12) ⟨by omega, by omega⟩ hb x1 (fun j hj => by
          unfold tset
          by_cases e : (j : Int) = k
          · rw [if_pos e, e, UA_eq]
          · rw [if_neg e, UA_j e, x2 j (by omega)]; exact ht j (by omega))
        rw [F2.1 13 (by decide) (by decide)] at q
        exact ⟨q.1, fun j hj => by rw [q.2 j (by omega), UA_j (by omega)]; exact x2 j hj⟩
      · have hf : f = 0 := by omega
        subst hf
        have hk8 : k = 8 := by omega
        subst hk8
        have e1 : kCF (0 + 1) A 8 c bt = CA (UA (UA A 11 4 c) 11 5 (pc bt.toNat)) 15 14 0 0 8 := by
          conv => lhs; unfold kCF
          rw [if_neg (not_not_intro c1), if_neg c2]
        have hm : kMF A 8 = 0 := rfl
        have c1' := c1
        unfold kMay at c1'
        rw [hm, Int.add_zero, hE.1, hE.2.1] at c1'
        have e2 : kEx nd 0 8 (A 13) c bt tr X = (c, pc bt.toNat, tr) := if_pos c1'
        rw [e1, e2]
        refine ⟨⟨?_, ?_, fun j hj => ?_⟩, fun j _ => ?_⟩
        · rw [CA_c (by decide), UA_j (by decide), UA_eq]
        · rw [CA_c (by decide), UA_eq]
        · have e14 : CA (UA (UA A 11 4 c) 11 5 (pc bt.toNat)) 15 14 0 0 8 14 j = A 15 j := by
            unfold CA
            rw [if_pos ⟨rfl, by omega, by omega⟩, show (0 : Int) + ((j : Int) - 0) = j by omega, UA_c (by decide), UA_c (by decide)]
          rw [e14]; exact ht j (by omega)
        · rw [CA_c (by decide), UA_c (by decide), UA_c (by decide)]
    · have e1 : kCF (f + 1) A k c bt = A := by
        conv => lhs; unfold kCF
        rw [if_pos c1]
      rw [e1, hmay c1]
      exact ⟨hE, fun _ _ => rfl⟩
/-- the whole cutting, told without its bound -/
theorem kCA_X {A : Nat → Int → Int} (hR : RG A) (hK : KCp A) : XE (kCA A) (kEx (A 12) 8 0 (A 13) 0 0 (fun j => A 15 j) (-1, 0, fun j => A 14 j)) ∧ KFr A (kCA A) := by
  have R0 : RG (UA (UA A 11 4 (-1)) 11 5 0) := rg_UA (rg_UA hR (by decide)) (by decide)
  have q := kCF_X (nd := A 12) 8 0 (by decide) (UA (UA A 11 4 (-1)) 11 5 0) 0 0 (fun j => A 15 j) (-1, 0, fun j => A 14 j) R0 hK.i rfl (by decide) (by decide) ⟨rfl, rfl, fun j _ => rfl⟩ (fun j hj => absurd hj (by omega))
  have g := kCF_g 9 (UA (UA A 11 4 (-1)) 11 5 0) 0 0 0 R0 hK.i (by decide) (by decide) (by decide)
  exact ⟨q.1, ((Fo.rf.fld (by decide)).fld (by decide)).tr g.1⟩
