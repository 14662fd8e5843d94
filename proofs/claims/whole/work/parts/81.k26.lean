theorem XE.be {A : Nat → Int → Int} {X Y : BX} (h : XE A X) (e : BE X Y) : XE A Y := ⟨h.1.trans e.1, h.2.1.trans e.2.1, fun j hj => (h.2.2 j hj).trans (e.2.2 j hj)⟩
theorem cut_k {A M : Nat → Int → Int} {set : Int} (hR : RG A) (hK : KCp A) (hN : NdR (bdNd M set) (bdT set) (M 0 13).toNat (A 12)) (hl : ∀ b : Nat, b < 4 → A 13 b = bdL M b ∧ 0 ≤ bdL M b ∧ bdL M b ≤ 9999) (hb : ∀ j : Nat, j < 8 → A 14 j = M 41 j) : XE (kCA A) (bdR M set) ∧ KFr A (kCA A) := by
  obtain ⟨q1, q2⟩ := kCA_X hR hK
  have b := blk (l0 := bdL M) hN (M 0 13).toNat 0 0 (bdL M) 0 0 (A 13) (fun j => A 15 j) (-1, 0, fun j => A 14 j) (-1, 0, fun k => M 41 k) (by omega) rfl hl (by decide) (fun j hj => absurd hj (by omega)) ⟨rfl, rfl, hb⟩
  have h8 := hN.1
  rw [show (M 0 13).toNat + (8 - (M 0 13).toNat) = 8 by omega, Nat.zero_mul] at b
  refine ⟨q1.be ?_, q2⟩
  unfold bdR
  rw [bdB_F]
  exact b
theorem per_k {A' : Nat → Int → Int} {t : Int → Int} {n : Int} {K : Nat} (h2 : A' 3 2 = (K : Int) + 1) (h3 : A' 3 3 = if t (srE t n (srq t n K)) = 47 then 1 else 0) (hE : ∀ j : Nat, j < K + 1 → A' 4 j = t (srq t n j) - 97 ∧ A' 5 j = cv t n (srq t n j + 1)) : sm (perK A') (A' 3 2).toNat = srPer t n K := by
  unfold srPer
  rw [show (A' 3 2).toNat = K + 1 by omega]
  refine sm_congr (fun k hk => ?_)
  unfold perK
  rw [(hE k hk).2, h2, h3, Int.toNat_natCast]
  by_cases c : t (srE t n (srq t n K)) = 47
  · rw [if_pos c]
    by_cases d : 0 < (k : Int) ∧ (k : Int) < K
    · rw [if_pos ⟨by decide, d.1, by omega⟩, if_pos ⟨c, d.1, d.2⟩]
    · rw [if_neg (fun z => d ⟨z.2.1, by omega⟩), if_neg (fun z => d z.2)]
  · rw [if_neg c, if_neg (fun z => z.1 rfl), if_neg (fun z => c z.1)]
