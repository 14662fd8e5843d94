def StrA (A : Nat → Int → Int) : Prop := (∀ j : Nat, j < 12 → ∀ k : Nat, k < sLen.getD j 0 → A (501 + 2 * j) (k : Int) = ((sByt.getD j []).getD k 0).toInt) ∧ ∀ j : Nat, j < 6 → A 530 (j : Int) = (sAb.getD j 0).toInt
theorem StrA.c {A A' : Nat → Int → Int} (h : StrA A) (h2 : ∀ c, 500 ≤ c → A' c = A c) : StrA A' := ⟨fun j hj k hk => by rw [h2 _ (by omega)]; exact h.1 j hj k hk, fun j hj => by rw [h2 _ (by omega)]; exact h.2 j hj⟩
theorem sB_r : ∀ j, j < 12 → ∀ k, k < sLen.getD j 0 → 0 ≤ ((sByt.getD j []).getD k 0).toInt ∧ ((sByt.getD j []).getD k 0).toInt ≤ 127 := by decide +kernel
theorem sB_l : ∀ j, j < 12 → 1 ≤ j → (∀ k, k < sLen.getD j 0 → 97 ≤ ((sByt.getD j []).getD k 0).toInt) ∧ 2 ≤ sLen.getD j 0 ∧ sLen.getD j 0 ≤ 6 := by decide +kernel
theorem s_ok {W : gW} {P : Nat → Int → Nat} (hT : Stat W P) (hG : GL W) {j : Nat} (hj : j < 12) : SOK W P (500 + 2 * j) := by
  obtain ⟨-, h2, h3, h4⟩ := hG.1 j hj
  have e : 500 + 2 * j + 1 = 501 + 2 * j := by omega
  refine ⟨h2, by rw [e]; exact hT.2.2 j hj, by rw [e]; exact h3, ?_⟩
  rw [e, h4]
  rcases (show j = 0 ∨ j = 1 ∨ j = 2 ∨ j = 3 ∨ j = 4 ∨ j = 5 ∨ j = 6 ∨ j = 7 ∨ j = 8 ∨ j = 9 ∨ j = 10 ∨ j = 11 by omega) with q | q | q | q | q | q | q | q | q | q | q | q <;> subst q <;> decide
theorem wdR_e {w : Nat} (h : w < 11) : wdR w = 500 + 2 * (w + 1) := by
  unfold wdR
  split <;> omega
/-- is the word w spelt from b up to e -/
def Xw (t : Int → Int) (w : Nat) (b e : Int) : Prop := e - b = (sLen.getD (w + 1) 0 : Nat) ∧ ∀ i : Nat, i < sLen.getD (w + 1) 0 → t (b + i) = ((sByt.getD (w + 1) []).getD i 0).toInt
abbrev spW (W : gW) (A : Nat → Int → Int) (w : Nat) : Prop := A 6 7 - A 6 6 = (gL W (wdR w + 1) : Int) ∧ spB (A (wdR w + 1)) (k_at A) (A 6 6) (gL W (wdR w + 1)) = true
theorem sp_iff {W : gW} {A : Nat → Int → Int} {t : Int → Int} (hG : GL W) (hS : StrA A) (hp : TpR A t) (h0 : 0 ≤ A 6 6) (h1 : A 6 7 ≤ A 1 1) {w : Nat} (hw : w < 11) : spW W A w ↔ Xw t w (A 6 6) (A 6 7) := by
  have e : wdR w + 1 = 501 + 2 * (w + 1) := by rw [wdR_e hw]; omega
  have hl := (hG.1 (w + 1) (by omega)).2.2.2
  unfold spW Xw
  rw [e, hl, spB_iff]
  have hb := sB_l (w + 1) (by omega) (by omega)
  have hr := sB_r (w + 1) (by omega)
  have hs := hS.1 (w + 1) (by omega)
  refine ⟨fun q => ⟨q.1, fun i hi => ?_⟩, fun q => ⟨q.1, fun i hi => ?_⟩⟩
  · have h2 := q.2 i hi
    have h3 := (hp.at (p := A 6 6 + i) (by omega)).2 (by have := q.1; omega)
    rw [hs i hi, h3.1] at h2
    have := hr i hi
    omega
  · have h2 := q.2 i hi
    have h3 := (hp.at (p := A 6 6 + i) (by omega)).2 (by have := q.1; omega)
    rw [hs i hi, h3.1, h2]
    have := hr i hi
    omega
theorem wq_s {t : Int → Int} {b : Int} {f n : Nat} {k : Int} (h : ¬ n = 0) : wq t b (f + 1) n k = true ↔ (b ≤ k ∧ t k - 96 = ((n % 32 : Nat) : Int)) ∧ wq t b f (n / 32) (k - 1) = true := by
  show (if n = 0 then decide (k = b - 1) else if b ≤ k ∧ t k - 96 = ((n % 32 : Nat) : Int) then wq t b f (n / 32) (k - 1) else false) = true ↔ _
  rw [if_neg h]
  by_cases c : b ≤ k ∧ t k - 96 = ((n % 32 : Nat) : Int)
  · rw [if_pos c]; exact ⟨fun q => ⟨c, q⟩, fun q => q.2⟩
  · rw [if_neg c]; exact ⟨fun q => absurd q (by decide), fun q => absurd q.1 c⟩
theorem wq_0 {t : Int → Int} {b : Int} {f : Nat} {k : Int} : wq t b (f + 1) 0 k = true ↔ k = b - 1 := by
  show (if 0 = 0 then decide (k = b - 1) else _) = true ↔ _
  rw [if_pos rfl, decide_eq_true_iff]
theorem wq_w0 {t : Int → Int} {b e : Int} : wq t b 13 17376357 (e - 1) = true ↔ Xw t 0 b e := by
  rw [wq_s (by decide), wq_s (by decide), wq_s (by decide), wq_s (by decide), wq_s (by decide), show (17376357 / 32 / 32 / 32 / 32 / 32 : Nat) = 0 from rfl, wq_0]
  have hl : sLen.getD (0 + 1) 0 = 5 := rfl
  have c0 : ((sByt.getD (0 + 1) []).getD 0 0).toInt = 112 := by decide
  have c1 : ((sByt.getD (0 + 1) []).getD 1 0).toInt = 114 := by decide
  have c2 : ((sByt.getD (0 + 1) []).getD 2 0).toInt = 105 := by decide
  have c3 : ((sByt.getD (0 + 1) []).getD 3 0).toInt = 99 := by decide
  have c4 : ((sByt.getD (0 + 1) []).getD 4 0).toInt = 101 := by decide
  unfold Xw
  rw [hl]
  constructor
  · rintro ⟨⟨a0, b0⟩, ⟨a1, b1⟩, ⟨a2, b2⟩, ⟨a3, b3⟩, ⟨a4, b4⟩, z⟩
    refine ⟨by omega, fun i hi => ?_⟩
    rcases (show i = 0 ∨ i = 1 ∨ i = 2 ∨ i = 3 ∨ i = 4 by omega) with q | q | q | q | q
    · subst q; rw [c0, show b + ((0 : Nat) : Int) = e - 1 - 1 - 1 - 1 - 1 by omega]; omega
    · subst q; rw [c1, show b + ((1 : Nat) : Int) = e - 1 - 1 - 1 - 1 by omega]; omega
    · subst q; rw [c2, show b + ((2 : Nat) : Int) = e - 1 - 1 - 1 by omega]; omega
    · subst q; rw [c3, show b + ((3 : Nat) : Int) = e - 1 - 1 by omega]; omega
    · subst q; rw [c4, show b + ((4 : Nat) : Int) = e - 1 by omega]; omega
  · rintro ⟨h, hs⟩
    have d0 := hs 0 (by decide)
    rw [c0, show b + ((0 : Nat) : Int) = e - 1 - 1 - 1 - 1 - 1 by omega] at d0
    have d1 := hs 1 (by decide)
    rw [c1, show b + ((1 : Nat) : Int) = e - 1 - 1 - 1 - 1 by omega] at d1
    have d2 := hs 2 (by decide)
    rw [c2, show b + ((2 : Nat) : Int) = e - 1 - 1 - 1 by omega] at d2
    have d3 := hs 3 (by decide)
    rw [c3, show b + ((3 : Nat) : Int) = e - 1 - 1 by omega] at d3
    have d4 := hs 4 (by decide)
    rw [c4, show b + ((4 : Nat) : Int) = e - 1 by omega] at d4
    exact ⟨⟨by omega, by omega⟩, ⟨by omega, by omega⟩, ⟨by omega, by omega⟩, ⟨by omega, by omega⟩, ⟨by omega, by omega⟩, by omega⟩
theorem wq_w1 {t : Int → Int} {b e : Int} : wq t b 13 6452 (e - 1) = true ↔ Xw t 1 b e := by
  rw [wq_s (by decide), wq_s (by decide), wq_s (by decide), show (6452 / 32 / 32 / 32 : Nat) = 0 from rfl, wq_0]
  have hl : sLen.getD (1 + 1) 0 = 3 := rfl
  have c0 : ((sByt.getD (1 + 1) []).getD 0 0).toInt = 102 := by decide
  have c1 : ((sByt.getD (1 + 1) []).getD 1 0).toInt = 105 := by decide
  have c2 : ((sByt.getD (1 + 1) []).getD 2 0).toInt = 116 := by decide
  unfold Xw
  rw [hl]
  constructor
  · rintro ⟨⟨a0, b0⟩, ⟨a1, b1⟩, ⟨a2, b2⟩, z⟩
    refine ⟨by omega, fun i hi => ?_⟩
    rcases (show i = 0 ∨ i = 1 ∨ i = 2 by omega) with q | q | q
    · subst q; rw [c0, show b + ((0 : Nat) : Int) = e - 1 - 1 - 1 by omega]; omega
    · subst q; rw [c1, show b + ((1 : Nat) : Int) = e - 1 - 1 by omega]; omega
    · subst q; rw [c2, show b + ((2 : Nat) : Int) = e - 1 by omega]; omega
  · rintro ⟨h, hs⟩
    have d0 := hs 0 (by decide)
    rw [c0, show b + ((0 : Nat) : Int) = e - 1 - 1 - 1 by omega] at d0
    have d1 := hs 1 (by decide)
    rw [c1, show b + ((1 : Nat) : Int) = e - 1 - 1 by omega] at d1
    have d2 := hs 2 (by decide)
    rw [c2, show b + ((2 : Nat) : Int) = e - 1 by omega] at d2
    exact ⟨⟨by omega, by omega⟩, ⟨by omega, by omega⟩, ⟨by omega, by omega⟩, by omega⟩
theorem wq_w2 {t : Int → Int} {b e : Int} : wq t b 13 498 (e - 1) = true ↔ Xw t 2 b e := by
  rw [wq_s (by decide), wq_s (by decide), show (498 / 32 / 32 : Nat) = 0 from rfl, wq_0]
  have hl : sLen.getD (2 + 1) 0 = 2 := rfl
  have c0 : ((sByt.getD (2 + 1) []).getD 0 0).toInt = 111 := by decide
  have c1 : ((sByt.getD (2 + 1) []).getD 1 0).toInt = 114 := by decide
  unfold Xw
  rw [hl]
  constructor
  · rintro ⟨⟨a0, b0⟩, ⟨a1, b1⟩, z⟩
    refine ⟨by omega, fun i hi => ?_⟩
    rcases (show i = 0 ∨ i = 1 by omega) with q | q
    · subst q; rw [c0, show b + ((0 : Nat) : Int) = e - 1 - 1 by omega]; omega
    · subst q; rw [c1, show b + ((1 : Nat) : Int) = e - 1 by omega]; omega
  · rintro ⟨h, hs⟩
    have d0 := hs 0 (by decide)
    rw [c0, show b + ((0 : Nat) : Int) = e - 1 - 1 by omega] at d0
    have d1 := hs 1 (by decide)
    rw [c1, show b + ((1 : Nat) : Int) = e - 1 by omega] at d1
    exact ⟨⟨by omega, by omega⟩, ⟨by omega, by omega⟩, by omega⟩
theorem wq_w3 {t : Int → Int} {b e : Int} : wq t b 13 1476 (e - 1) = true ↔ Xw t 3 b e := by
  rw [wq_s (by decide), wq_s (by decide), wq_s (by decide), show (1476 / 32 / 32 / 32 : Nat) = 0 from rfl, wq_0]
  have hl : sLen.getD (3 + 1) 0 = 3 := rfl
  have c0 : ((sByt.getD (3 + 1) []).getD 0 0).toInt = 97 := by decide
  have c1 : ((sByt.getD (3 + 1) []).getD 1 0).toInt = 110 := by decide
  have c2 : ((sByt.getD (3 + 1) []).getD 2 0).toInt = 100 := by decide
  unfold Xw
  rw [hl]
  constructor
  · rintro ⟨⟨a0, b0⟩, ⟨a1, b1⟩, ⟨a2, b2⟩, z⟩
    refine ⟨by omega, fun i hi => ?_⟩
    rcases (show i = 0 ∨ i = 1 ∨ i = 2 by omega) with q | q | q
    · subst q; rw [c0, show b + ((0 : Nat) : Int) = e - 1 - 1 - 1 by omega]; omega
    · subst q; rw [c1, show b + ((1 : Nat) : Int) = e - 1 - 1 by omega]; omega
    · subst q; rw [c2, show b + ((2 : Nat) : Int) = e - 1 by omega]; omega
  · rintro ⟨h, hs⟩
    have d0 := hs 0 (by decide)
    rw [c0, show b + ((0 : Nat) : Int) = e - 1 - 1 - 1 by omega] at d0
    have d1 := hs 1 (by decide)
    rw [c1, show b + ((1 : Nat) : Int) = e - 1 - 1 by omega] at d1
    have d2 := hs 2 (by decide)
    rw [c2, show b + ((2 : Nat) : Int) = e - 1 by omega] at d2
    exact ⟨⟨by omega, by omega⟩, ⟨by omega, by omega⟩, ⟨by omega, by omega⟩, by omega⟩
theorem wq_w4 {t : Int → Int} {b e : Int} : wq t b 13 14836 (e - 1) = true ↔ Xw t 4 b e := by
  rw [wq_s (by decide), wq_s (by decide), wq_s (by decide), show (14836 / 32 / 32 / 32 : Nat) = 0 from rfl, wq_0]
  have hl : sLen.getD (4 + 1) 0 = 3 := rfl
  have c0 : ((sByt.getD (4 + 1) []).getD 0 0).toInt = 110 := by decide
  have c1 : ((sByt.getD (4 + 1) []).getD 1 0).toInt = 111 := by decide
  have c2 : ((sByt.getD (4 + 1) []).getD 2 0).toInt = 116 := by decide
  unfold Xw
  rw [hl]
  constructor
  · rintro ⟨⟨a0, b0⟩, ⟨a1, b1⟩, ⟨a2, b2⟩, z⟩
    refine ⟨by omega, fun i hi => ?_⟩
    rcases (show i = 0 ∨ i = 1 ∨ i = 2 by omega) with q | q | q
    · subst q; rw [c0, show b + ((0 : Nat) : Int) = e - 1 - 1 - 1 by omega]; omega
    · subst q; rw [c1, show b + ((1 : Nat) : Int) = e - 1 - 1 by omega]; omega
    · subst q; rw [c2, show b + ((2 : Nat) : Int) = e - 1 by omega]; omega
  · rintro ⟨h, hs⟩
    have d0 := hs 0 (by decide)
    rw [c0, show b + ((0 : Nat) : Int) = e - 1 - 1 - 1 by omega] at d0
    have d1 := hs 1 (by decide)
    rw [c1, show b + ((1 : Nat) : Int) = e - 1 - 1 by omega] at d1
    have d2 := hs 2 (by decide)
    rw [c2, show b + ((2 : Nat) : Int) = e - 1 by omega] at d2
    exact ⟨⟨by omega, by omega⟩, ⟨by omega, by omega⟩, ⟨by omega, by omega⟩, by omega⟩
theorem wq_w5 {t : Int → Int} {b e : Int} : wq t b 13 707748 (e - 1) = true ↔ Xw t 5 b e := by
  rw [wq_s (by decide), wq_s (by decide), wq_s (by decide), wq_s (by decide), show (707748 / 32 / 32 / 32 / 32 : Nat) = 0 from rfl, wq_0]
  have hl : sLen.getD (5 + 1) 0 = 4 := rfl
  have c0 : ((sByt.getD (5 + 1) []).getD 0 0).toInt = 117 := by decide
  have c1 : ((sByt.getD (5 + 1) []).getD 1 0).toInt = 115 := by decide
  have c2 : ((sByt.getD (5 + 1) []).getD 2 0).toInt = 101 := by decide
  have c3 : ((sByt.getD (5 + 1) []).getD 3 0).toInt = 100 := by decide
  unfold Xw
  rw [hl]
  constructor
  · rintro ⟨⟨a0, b0⟩, ⟨a1, b1⟩, ⟨a2, b2⟩, ⟨a3, b3⟩, z⟩
    refine ⟨by omega, fun i hi => ?_⟩
    rcases (show i = 0 ∨ i = 1 ∨ i = 2 ∨ i = 3 by omega) with q | q | q | q
    · subst q; rw [c0, show b + ((0 : Nat) : Int) = e - 1 - 1 - 1 - 1 by omega]; omega
    · subst q; rw [c1, show b + ((1 : Nat) : Int) = e - 1 - 1 - 1 by omega]; omega
    · subst q; rw [c2, show b + ((2 : Nat) : Int) = e - 1 - 1 by omega]; omega
    · subst q; rw [c3, show b + ((3 : Nat) : Int) = e - 1 by omega]; omega
  · rintro ⟨h, hs⟩
    have d0 := hs 0 (by decide)
    rw [c0, show b + ((0 : Nat) : Int) = e - 1 - 1 - 1 - 1 by omega] at d0
    have d1 := hs 1 (by decide)
    rw [c1, show b + ((1 : Nat) : Int) = e - 1 - 1 - 1 by omega] at d1
    have d2 := hs 2 (by decide)
    rw [c2, show b + ((2 : Nat) : Int) = e - 1 - 1 by omega] at d2
    have d3 := hs 3 (by decide)
    rw [c3, show b + ((3 : Nat) : Int) = e - 1 by omega] at d3
    exact ⟨⟨by omega, by omega⟩, ⟨by omega, by omega⟩, ⟨by omega, by omega⟩, ⟨by omega, by omega⟩, by omega⟩
theorem wq_w6 {t : Int → Int} {b e : Int} : wq t b 13 549619347 (e - 1) = true ↔ Xw t 6 b e := by
  rw [wq_s (by decide), wq_s (by decide), wq_s (by decide), wq_s (by decide), wq_s (by decide), wq_s (by decide), show (549619347 / 32 / 32 / 32 / 32 / 32 / 32 : Nat) = 0 from rfl, wq_0]
  have hl : sLen.getD (6 + 1) 0 = 6 := rfl
  have c0 : ((sByt.getD (6 + 1) []).getD 0 0).toInt = 112 := by decide
  have c1 : ((sByt.getD (6 + 1) []).getD 1 0).toInt = 108 := by decide
  have c2 : ((sByt.getD (6 + 1) []).getD 2 0).toInt = 101 := by decide
  have c3 : ((sByt.getD (6 + 1) []).getD 3 0).toInt = 97 := by decide
  have c4 : ((sByt.getD (6 + 1) []).getD 4 0).toInt = 116 := by decide
  have c5 : ((sByt.getD (6 + 1) []).getD 5 0).toInt = 115 := by decide
  unfold Xw
  rw [hl]
  constructor
  · rintro ⟨⟨a0, b0⟩, ⟨a1, b1⟩, ⟨a2, b2⟩, ⟨a3, b3⟩, ⟨a4, b4⟩, ⟨a5, b5⟩, z⟩
    refine ⟨by omega, fun i hi => ?_⟩
    rcases (show i = 0 ∨ i = 1 ∨ i = 2 ∨ i = 3 ∨ i = 4 ∨ i = 5 by omega) with q | q | q | q | q | q
    · subst q; rw [c0, show b + ((0 : Nat) : Int) = e - 1 - 1 - 1 - 1 - 1 - 1 by omega]; omega
    · subst q; rw [c1, show b + ((1 : Nat) : Int) = e - 1 - 1 - 1 - 1 - 1 by omega]; omega
    · subst q; rw [c2, show b + ((2 : Nat) : Int) = e - 1 - 1 - 1 - 1 by omega]; omega
    · subst q; rw [c3, show b + ((3 : Nat) : Int) = e - 1 - 1 - 1 by omega]; omega
    · subst q; rw [c4, show b + ((4 : Nat) : Int) = e - 1 - 1 by omega]; omega
    · subst q; rw [c5, show b + ((5 : Nat) : Int) = e - 1 by omega]; omega
  · rintro ⟨h, hs⟩
    have d0 := hs 0 (by decide)
    rw [c0, show b + ((0 : Nat) : Int) = e - 1 - 1 - 1 - 1 - 1 - 1 by omega] at d0
    have d1 := hs 1 (by decide)
    rw [c1, show b + ((1 : Nat) : Int) = e - 1 - 1 - 1 - 1 - 1 by omega] at d1
    have d2 := hs 2 (by decide)
    rw [c2, show b + ((2 : Nat) : Int) = e - 1 - 1 - 1 - 1 by omega] at d2
    have d3 := hs 3 (by decide)
    rw [c3, show b + ((3 : Nat) : Int) = e - 1 - 1 - 1 by omega] at d3
    have d4 := hs 4 (by decide)
    rw [c4, show b + ((4 : Nat) : Int) = e - 1 - 1 by omega] at d4
    have d5 := hs 5 (by decide)
    rw [c5, show b + ((5 : Nat) : Int) = e - 1 by omega] at d5
    exact ⟨⟨by omega, by omega⟩, ⟨by omega, by omega⟩, ⟨by omega, by omega⟩, ⟨by omega, by omega⟩, ⟨by omega, by omega⟩, ⟨by omega, by omega⟩, by omega⟩
theorem wq_w7 {t : Int → Int} {b e : Int} : wq t b 13 8496 (e - 1) = true ↔ Xw t 7 b e := by
  rw [wq_s (by decide), wq_s (by decide), wq_s (by decide), show (8496 / 32 / 32 / 32 : Nat) = 0 from rfl, wq_0]
  have hl : sLen.getD (7 + 1) 0 = 3 := rfl
  have c0 : ((sByt.getD (7 + 1) []).getD 0 0).toInt = 104 := by decide
  have c1 : ((sByt.getD (7 + 1) []).getD 1 0).toInt = 105 := by decide
  have c2 : ((sByt.getD (7 + 1) []).getD 2 0).toInt = 112 := by decide
  unfold Xw
  rw [hl]
  constructor
  · rintro ⟨⟨a0, b0⟩, ⟨a1, b1⟩, ⟨a2, b2⟩, z⟩
    refine ⟨by omega, fun i hi => ?_⟩
    rcases (show i = 0 ∨ i = 1 ∨ i = 2 by omega) with q | q | q
    · subst q; rw [c0, show b + ((0 : Nat) : Int) = e - 1 - 1 - 1 by omega]; omega
    · subst q; rw [c1, show b + ((1 : Nat) : Int) = e - 1 - 1 by omega]; omega
    · subst q; rw [c2, show b + ((2 : Nat) : Int) = e - 1 by omega]; omega
  · rintro ⟨h, hs⟩
    have d0 := hs 0 (by decide)
    rw [c0, show b + ((0 : Nat) : Int) = e - 1 - 1 - 1 by omega] at d0
    have d1 := hs 1 (by decide)
    rw [c1, show b + ((1 : Nat) : Int) = e - 1 - 1 by omega] at d1
    have d2 := hs 2 (by decide)
    rw [c2, show b + ((2 : Nat) : Int) = e - 1 by omega] at d2
    exact ⟨⟨by omega, by omega⟩, ⟨by omega, by omega⟩, ⟨by omega, by omega⟩, by omega⟩
theorem wq_w8 {t : Int → Int} {b e : Int} : wq t b 13 24159860 (e - 1) = true ↔ Xw t 8 b e := by
  rw [wq_s (by decide), wq_s (by decide), wq_s (by decide), wq_s (by decide), wq_s (by decide), show (24159860 / 32 / 32 / 32 / 32 / 32 : Nat) = 0 from rfl, wq_0]
  have hl : sLen.getD (8 + 1) 0 = 5 := rfl
  have c0 : ((sByt.getD (8 + 1) []).getD 0 0).toInt = 119 := by decide
  have c1 : ((sByt.getD (8 + 1) []).getD 1 0).toInt = 97 := by decide
  have c2 : ((sByt.getD (8 + 1) []).getD 2 0).toInt = 105 := by decide
  have c3 : ((sByt.getD (8 + 1) []).getD 3 0).toInt = 115 := by decide
  have c4 : ((sByt.getD (8 + 1) []).getD 4 0).toInt = 116 := by decide
  unfold Xw
  rw [hl]
  constructor
  · rintro ⟨⟨a0, b0⟩, ⟨a1, b1⟩, ⟨a2, b2⟩, ⟨a3, b3⟩, ⟨a4, b4⟩, z⟩
    refine ⟨by omega, fun i hi => ?_⟩
    rcases (show i = 0 ∨ i = 1 ∨ i = 2 ∨ i = 3 ∨ i = 4 by omega) with q | q | q | q | q
    · subst q; rw [c0, show b + ((0 : Nat) : Int) = e - 1 - 1 - 1 - 1 - 1 by omega]; omega
    · subst q; rw [c1, show b + ((1 : Nat) : Int) = e - 1 - 1 - 1 - 1 by omega]; omega
    · subst q; rw [c2, show b + ((2 : Nat) : Int) = e - 1 - 1 - 1 by omega]; omega
    · subst q; rw [c3, show b + ((3 : Nat) : Int) = e - 1 - 1 by omega]; omega
    · subst q; rw [c4, show b + ((4 : Nat) : Int) = e - 1 by omega]; omega
  · rintro ⟨h, hs⟩
    have d0 := hs 0 (by decide)
    rw [c0, show b + ((0 : Nat) : Int) = e - 1 - 1 - 1 - 1 - 1 by omega] at d0
    have d1 := hs 1 (by decide)
    rw [c1, show b + ((1 : Nat) : Int) = e - 1 - 1 - 1 - 1 by omega] at d1
    have d2 := hs 2 (by decide)
    rw [c2, show b + ((2 : Nat) : Int) = e - 1 - 1 - 1 by omega] at d2
    have d3 := hs 3 (by decide)
    rw [c3, show b + ((3 : Nat) : Int) = e - 1 - 1 by omega] at d3
    have d4 := hs 4 (by decide)
    rw [c4, show b + ((4 : Nat) : Int) = e - 1 by omega] at d4
    exact ⟨⟨by omega, by omega⟩, ⟨by omega, by omega⟩, ⟨by omega, by omega⟩, ⟨by omega, by omega⟩, ⟨by omega, by omega⟩, by omega⟩
theorem wq_w9 {t : Int → Int} {b e : Int} : wq t b 13 20201198 (e - 1) = true ↔ Xw t 9 b e := by
  rw [wq_s (by decide), wq_s (by decide), wq_s (by decide), wq_s (by decide), wq_s (by decide), show (20201198 / 32 / 32 / 32 / 32 / 32 : Nat) = 0 from rfl, wq_0]
  have hl : sLen.getD (9 + 1) 0 = 5 := rfl
  have c0 : ((sByt.getD (9 + 1) []).getD 0 0).toInt = 115 := by decide
  have c1 : ((sByt.getD (9 + 1) []).getD 1 0).toInt = 104 := by decide
  have c2 : ((sByt.getD (9 + 1) []).getD 2 0).toInt = 111 := by decide
  have c3 : ((sByt.getD (9 + 1) []).getD 3 0).toInt = 119 := by decide
  have c4 : ((sByt.getD (9 + 1) []).getD 4 0).toInt = 110 := by decide
  unfold Xw
  rw [hl]
  constructor
  · rintro ⟨⟨a0, b0⟩, ⟨a1, b1⟩, ⟨a2, b2⟩, ⟨a3, b3⟩, ⟨a4, b4⟩, z⟩
    refine ⟨by omega, fun i hi => ?_⟩
    rcases (show i = 0 ∨ i = 1 ∨ i = 2 ∨ i = 3 ∨ i = 4 by omega) with q | q | q | q | q
    · subst q; rw [c0, show b + ((0 : Nat) : Int) = e - 1 - 1 - 1 - 1 - 1 by omega]; omega
    · subst q; rw [c1, show b + ((1 : Nat) : Int) = e - 1 - 1 - 1 - 1 by omega]; omega
    · subst q; rw [c2, show b + ((2 : Nat) : Int) = e - 1 - 1 - 1 by omega]; omega
    · subst q; rw [c3, show b + ((3 : Nat) : Int) = e - 1 - 1 by omega]; omega
    · subst q; rw [c4, show b + ((4 : Nat) : Int) = e - 1 by omega]; omega
  · rintro ⟨h, hs⟩
    have d0 := hs 0 (by decide)
    rw [c0, show b + ((0 : Nat) : Int) = e - 1 - 1 - 1 - 1 - 1 by omega] at d0
    have d1 := hs 1 (by decide)
    rw [c1, show b + ((1 : Nat) : Int) = e - 1 - 1 - 1 - 1 by omega] at d1
    have d2 := hs 2 (by decide)
    rw [c2, show b + ((2 : Nat) : Int) = e - 1 - 1 - 1 by omega] at d2
    have d3 := hs 3 (by decide)
    rw [c3, show b + ((3 : Nat) : Int) = e - 1 - 1 by omega] at d3
    have d4 := hs 4 (by decide)
    rw [c4, show b + ((4 : Nat) : Int) = e - 1 by omega] at d4
    exact ⟨⟨by omega, by omega⟩, ⟨by omega, by omega⟩, ⟨by omega, by omega⟩, ⟨by omega, by omega⟩, ⟨by omega, by omega⟩, by omega⟩
theorem wq_w10 {t : Int → Int} {b e : Int} : wq t b 13 20604293 (e - 1) = true ↔ Xw t 10 b e := by
  rw [wq_s (by decide), wq_s (by decide), wq_s (by decide), wq_s (by decide), wq_s (by decide), show (20604293 / 32 / 32 / 32 / 32 / 32 : Nat) = 0 from rfl, wq_0]
  have hl : sLen.getD (10 + 1) 0 = 5 := rfl
  have c0 : ((sByt.getD (10 + 1) []).getD 0 0).toInt = 115 := by decide
  have c1 : ((sByt.getD (10 + 1) []).getD 1 0).toInt = 116 := by decide
  have c2 : ((sByt.getD (10 + 1) []).getD 2 0).toInt = 121 := by decide
  have c3 : ((sByt.getD (10 + 1) []).getD 3 0).toInt = 108 := by decide
  have c4 : ((sByt.getD (10 + 1) []).getD 4 0).toInt = 101 := by decide
  unfold Xw
  rw [hl]
  constructor
  · rintro ⟨⟨a0, b0⟩, ⟨a1, b1⟩, ⟨a2, b2⟩, ⟨a3, b3⟩, ⟨a4, b4⟩, z⟩
    refine ⟨by omega, fun i hi => ?_⟩
    rcases (show i = 0 ∨ i = 1 ∨ i = 2 ∨ i = 3 ∨ i = 4 by omega) with q | q | q | q | q
    · subst q; rw [c0, show b + ((0 : Nat) : Int) = e - 1 - 1 - 1 - 1 - 1 by omega]; omega
    · subst q; rw [c1, show b + ((1 : Nat) : Int) = e - 1 - 1 - 1 - 1 by omega]; omega
    · subst q; rw [c2, show b + ((2 : Nat) : Int) = e - 1 - 1 - 1 by omega]; omega
    · subst q; rw [c3, show b + ((3 : Nat) : Int) = e - 1 - 1 by omega]; omega
    · subst q; rw [c4, show b + ((4 : Nat) : Int) = e - 1 by omega]; omega
  · rintro ⟨h, hs⟩
    have d0 := hs 0 (by decide)
    rw [c0, show b + ((0 : Nat) : Int) = e - 1 - 1 - 1 - 1 - 1 by omega] at d0
    have d1 := hs 1 (by decide)
    rw [c1, show b + ((1 : Nat) : Int) = e - 1 - 1 - 1 - 1 by omega] at d1
    have d2 := hs 2 (by decide)
    rw [c2, show b + ((2 : Nat) : Int) = e - 1 - 1 - 1 by omega] at d2
    have d3 := hs 3 (by decide)
    rw [c3, show b + ((3 : Nat) : Int) = e - 1 - 1 by omega] at d3
    have d4 := hs 4 (by decide)
    rw [c4, show b + ((4 : Nat) : Int) = e - 1 by omega] at d4
    exact ⟨⟨by omega, by omega⟩, ⟨by omega, by omega⟩, ⟨by omega, by omega⟩, ⟨by omega, by omega⟩, ⟨by omega, by omega⟩, by omega⟩
theorem Xw_2 {t : Int → Int} {w : Nat} {b e : Int} (h : Xw t w b e) (hw : w < 11) : e - b = (sLen.getD (w + 1) 0 : Nat) ∧ t b = ((sByt.getD (w + 1) []).getD 0 0).toInt ∧ t (b + 1) = ((sByt.getD (w + 1) []).getD 1 0).toInt := by
  have hb := sB_l (w + 1) (by omega) (by omega)
  have h0 := h.2 0 (by omega)
  have h1 := h.2 1 (by omega)
  rw [show b + ((0 : Nat) : Int) = b by omega] at h0
  exact ⟨h.1, h0, h1⟩
theorem Xw_u0 : ∀ w, w < 11 → ∀ w', w' < 11 → sLen.getD (w + 1) 0 = sLen.getD (w' + 1) 0 → ((sByt.getD (w + 1) []).getD 0 0).toInt = ((sByt.getD (w' + 1) []).getD 0 0).toInt → ((sByt.getD (w + 1) []).getD 1 0).toInt = ((sByt.getD (w' + 1) []).getD 1 0).toInt → w = w' := by decide +kernel
theorem Xw_u {t : Int → Int} {w w' : Nat} {b e : Int} (h : Xw t w b e) (h' : Xw t w' b e) (hw : w < 11) (hw' : w' < 11) : w = w' := by
  obtain ⟨a1, a2, a3⟩ := Xw_2 h hw
  obtain ⟨b1, b2, b3⟩ := Xw_2 h' hw'
  exact Xw_u0 w hw w' hw' (by omega) (by omega) (by omega)
/-- the token by the words before k -/
def tkw (s : Nat → Bool) : Nat → Int
  | 0 => 402
  | k + 1 => if s k = true then 200 + (k : Int) else tkw s k
theorem tkw_n {s : Nat → Bool} : ∀ {k : Nat}, (∀ w, w < k → ¬ s w = true) → tkw s k = 402
  | 0, _ => rfl
  | k + 1, h => by
    show (if s k = true then _ else tkw s k) = _
    rw [if_neg (h k (by omega)), tkw_n (fun w hw => h w (by omega))]
theorem tkw_p {s : Nat → Bool} {w : Nat} (hw : s w = true) : ∀ {k : Nat}, w < k → (∀ w', w' < k → s w' = true → w' = w) → tkw s k = 200 + (w : Int)
  | 0, h, _ => absurd h (Nat.not_lt_zero w)
  | k + 1, h, hu => by
    show (if s k = true then _ else tkw s k) = _
    by_cases e : s k = true
    · rw [if_pos e, hu k (by omega) e]
    · rw [if_neg e]
      have : ¬ w = k := fun q => e (by rw [← q]; exact hw)
      exact tkw_p hw (by omega) (fun w' h' => hu w' (by omega))
theorem tkw_e {t : Int → Int} {b e : Int} {s : Nat → Bool} (hs : ∀ w, w < 11 → (s w = true ↔ Xw t w b e)) : tkw s 11 = if wkT t b e = -1 then 402 else 200 + wkT t b e := by
  by_cases h : ∃ w, w < 11 ∧ s w = true
  · obtain ⟨w, hw, hsw⟩ := h
    have hX := (hs w hw).mp hsw
    have hu : ∀ w', w' < 11 → Xw t w' b e → w' = w := fun w' h' hx => Xw_u hx hX h' hw
    rw [tkw_p hsw hw (fun w' h' q => hu w' h' ((hs w' h').mp q))]
    have hn : ∀ w', w' < 11 → ¬ w' = w → ¬ Xw t w' b e := fun w' h' hne hx => hne (hu w' h' hx)
    have key : wkT t b e = w := by
      unfold wkT
      rcases (show w = 0 ∨ w = 1 ∨ w = 2 ∨ w = 3 ∨ w = 4 ∨ w = 5 ∨ w = 6 ∨ w = 7 ∨ w = 8 ∨ w = 9 ∨ w = 10 by omega) with q | q | q | q | q | q | q | q | q | q | q
      · subst q; rw [if_neg (fun z => hn 5 (by decide) (by decide) (wq_w5.mp z)), if_neg (fun z => hn 6 (by decide) (by decide) (wq_w6.mp z)), if_neg (fun z => hn 7 (by decide) (by decide) (wq_w7.mp z)), if_neg (fun z => hn 8 (by decide) (by decide) (wq_w8.mp z)), if_neg (fun z => hn 9 (by decide) (by decide) (wq_w9.mp z)), if_neg (fun z => hn 10 (by decide) (by decide) (wq_w10.mp z)), if_pos (wq_w0.mpr hX)]; rfl
      · subst q; rw [if_neg (fun z => hn 5 (by decide) (by decide) (wq_w5.mp z)), if_neg (fun z => hn 6 (by decide) (by decide) (wq_w6.mp z)), if_neg (fun z => hn 7 (by decide) (by decide) (wq_w7.mp z)), if_neg (fun z => hn 8 (by decide) (by decide) (wq_w8.mp z)), if_neg (fun z => hn 9 (by decide) (by decide) (wq_w9.mp z)), if_neg (fun z => hn 10 (by decide) (by decide) (wq_w10.mp z)), if_neg (fun z => hn 0 (by decide) (by decide) (wq_w0.mp z)), if_pos (wq_w1.mpr hX)]; rfl
      · subst q; rw [if_neg (fun z => hn 5 (by decide) (by decide) (wq_w5.mp z)), if_neg (fun z => hn 6 (by decide) (by decide) (wq_w6.mp z)), if_neg (fun z => hn 7 (by decide) (by decide) (wq_w7.mp z)), if_neg (fun z => hn 8 (by decide) (by decide) (wq_w8.mp z)), if_neg (fun z => hn 9 (by decide) (by decide) (wq_w9.mp z)), if_neg (fun z => hn 10 (by decide) (by decide) (wq_w10.mp z)), if_neg (fun z => hn 0 (by decide) (by decide) (wq_w0.mp z)), if_neg (fun z => hn 1 (by decide) (by decide) (wq_w1.mp z)), if_pos (wq_w2.mpr hX)]; rfl
      · subst q; rw [if_neg (fun z => hn 5 (by decide) (by decide) (wq_w5.mp z)), if_neg (fun z => hn 6 (by decide) (by decide) (wq_w6.mp z)), if_neg (fun z => hn 7 (by decide) (by decide) (wq_w7.mp z)), if_neg (fun z => hn 8 (by decide) (by decide) (wq_w8.mp z)), if_neg (fun z => hn 9 (by decide) (by decide) (wq_w9.mp z)), if_neg (fun z => hn 10 (by decide) (by decide) (wq_w10.mp z)), if_neg (fun z => hn 0 (by decide) (by decide) (wq_w0.mp z)), if_neg (fun z => hn 1 (by decide) (by decide) (wq_w1.mp z)), if_neg (fun z => hn 2 (by decide) (by decide) (wq_w2.mp z)), if_pos (wq_w3.mpr hX)]; rfl
      · subst q; rw [if_neg (fun z => hn 5 (by decide) (by decide) (wq_w5.mp z)), if_neg (fun z => hn 6 (by decide) (by decide) (wq_w6.mp z)), if_neg (fun z => hn 7 (by decide) (by decide) (wq_w7.mp z)), if_neg (fun z => hn 8 (by decide) (by decide) (wq_w8.mp z)), if_neg (fun z => hn 9 (by decide) (by decide) (wq_w9.mp z)), if_neg (fun z => hn 10 (by decide) (by decide) (wq_w10.mp z)), if_neg (fun z => hn 0 (by decide) (by decide) (wq_w0.mp z)), if_neg (fun z => hn 1 (by decide) (by decide) (wq_w1.mp z)), if_neg (fun z => hn 2 (by decide) (by decide) (wq_w2.mp z)), if_neg (fun z => hn 3 (by decide) (by decide) (wq_w3.mp z)), if_pos (wq_w4.mpr hX)]; rfl
      · subst q; rw [if_pos (wq_w5.mpr hX)]; rfl
      · subst q; rw [if_neg (fun z => hn 5 (by decide) (by decide) (wq_w5.mp z)), if_pos (wq_w6.mpr hX)]; rfl
      · subst q; rw [if_neg (fun z => hn 5 (by decide) (by decide) (wq_w5.mp z)), if_neg (fun z => hn 6 (by decide) (by decide) (wq_w6.mp z)), if_pos (wq_w7.mpr hX)]; rfl
      · subst q; rw [if_neg (fun z => hn 5 (by decide) (by decide) (wq_w5.mp z)), if_neg (fun z => hn 6 (by decide) (by decide) (wq_w6.mp z)), if_neg (fun z => hn 7 (by decide) (by decide) (wq_w7.mp z)), if_pos (wq_w8.mpr hX)]; rfl
      · subst q; rw [if_neg (fun z => hn 5 (by decide) (by decide) (wq_w5.mp z)), if_neg (fun z => hn 6 (by decide) (by decide) (wq_w6.mp z)), if_neg (fun z => hn 7 (by decide) (by decide) (wq_w7.mp z)), if_neg (fun z => hn 8 (by decide) (by decide) (wq_w8.mp z)), if_pos (wq_w9.mpr hX)]; rfl
      · subst q; rw [if_neg (fun z => hn 5 (by decide) (by decide) (wq_w5.mp z)), if_neg (fun z => hn 6 (by decide) (by decide) (wq_w6.mp z)), if_neg (fun z => hn 7 (by decide) (by decide) (wq_w7.mp z)), if_neg (fun z => hn 8 (by decide) (by decide) (wq_w8.mp z)), if_neg (fun z => hn 9 (by decide) (by decide) (wq_w9.mp z)), if_pos (wq_w10.mpr hX)]; rfl
    rw [key, if_neg (by omega)]
  · have hn : ∀ w, w < 11 → ¬ Xw t w b e := fun w hw hx => h ⟨w, hw, (hs w hw).mpr hx⟩
    rw [tkw_n (fun w hw q => h ⟨w, hw, q⟩)]
    have key : wkT t b e = -1 := by
      unfold wkT
      rw [if_neg (fun z => hn 5 (by decide) (wq_w5.mp z)), if_neg (fun z => hn 6 (by decide) (wq_w6.mp z)), if_neg (fun z => hn 7 (by decide) (wq_w7.mp z)), if_neg (fun z => hn 8 (by decide) (wq_w8.mp z)), if_neg (fun z => hn 9 (by decide) (wq_w9.mp z)), if_neg (fun z => hn 10 (by decide) (wq_w10.mp z)), if_neg (fun z => hn 0 (by decide) (wq_w0.mp z)), if_neg (fun z => hn 1 (by decide) (wq_w1.mp z)), if_neg (fun z => hn 2 (by decide) (wq_w2.mp z)), if_neg (fun z => hn 3 (by decide) (wq_w3.mp z)), if_neg (fun z => hn 4 (by decide) (wq_w4.mp z))]
    rw [key, if_pos rfl]
theorem V21_0 {d : Nat} (hd : 5 ≤ d) {Q : Option Value → xM → Prop} {W : gW} (hW : HW W) {A : Nat → Int → Int} {P : Nat → Int → Nat} (hR : RG A) (hT : Stat W P) (hG : GL W) (h : (((160 ≤ (A 6 7)) → wpE (xT 21) (xev xT d) Q (49, [(0, .ref (lo W 6)), (1, .int (iz 0))], [], Wm W (UA A 6 4 402) P)) ∧ (¬ (160 ≤ (A 6 7)) → (P 6 3 = 1 + 1) ∧ ((¬ (97 ≤ (k_at A (A 6 7)) ∧ (k_at A (A 6 7)) ≤ 122) → wpE (xT 21) (xev xT d) Q (49, [(0, .ref (lo W 6)), (1, .int (iz 0))], [], Wm W (UA A 6 4 402) P)) ∧ ((97 ≤ (k_at A (A 6 7)) ∧ (k_at A (A 6 7)) ≤ 122) → (Rg ((A 6 7) + 1)) ∧ wpE (xT 21) (xev xT d) Q (0, [(0, .ref (lo W 6))], [], Wm W (UA A 6 7 ((A 6 7) + 1)) P)))))) : wpE (xT 21) (xev xT d) Q (0, [(0, .ref (lo W 6))], [], Wm W A P) := by
  refine p_ald (cct c21_0 rfl) rfl ?_
  refine w_geti hW (v := A 6 7) (cc3 c21_1) (st_k hT 6 11 (by decide)) (ji := 7) rfl rfl ?_
  refine i_push (n := 160) (cc3 c21_4) zl_160 ?_
  refine i_icmp (c' := 160 ≤ (A 6 7)) (cc3 c21_7) (iz_le (by decide : Rg (160 : Int)) (hR 6 7)) (fun c => ?_) (fun c => ?_)
  · have h := h.1 c
    refine p_ald (cct c21_40 rfl) rfl ?_
    refine i_push (n := 402) (cc3 c21_41) zl_402 ?_
    refine id (α := Rg 402 → _) (fun _ => ?_) (by decide : Rg (402 : Int)); refine w_puti hW (cc3 c21_44) (st_k hT 6 11 (by decide)) (ji := 4) rfl ?_
    refine i_push (n := 0) (cc3 c21_47) zl_0 ?_
    refine p_ist (ls' := [(1, .int (iz 0)), (0, .ref (lo W 6))]) (cc3 c21_48) (by decide) rfl ?_
    exact p_lc (ls' := [(0, .ref (lo W 6)), (1, .int (iz 0))]) c21_49 rfl rfl h
  · have h := h.2 c
    refine p_ald (cc3 c21_10) rfl ?_
    obtain ⟨g1, h⟩ := h
    refine w_getp hW hT.1 (b := 1) (cc3 c21_11) (st_k hT 6 11 (by decide)) (ji := 3) rfl g1 ?_
    refine p_ald (cc3 c21_14) rfl ?_
    refine w_geti hW (v := A 6 7) (cc3 c21_15) (st_k hT 6 11 (by decide)) (ji := 7) rfl rfl ?_
    refine p_callV (cc3 c21_18) (Nat.le_of_ble_eq_true rfl) rfl rfl (Nat.le_of_ble_eq_true rfl) (wk_kd hW (by decide) (st_k hT 1 9 (by decide))) (S18 (Nat.le_trans (by decide) hd) hW hR hT hG (hR 6 7)) ?_
    refine p_callS (cc3 c21_21) (Nat.le_of_ble_eq_true rfl) rfl rfl (Nat.le_of_ble_eq_true rfl) (S20 (Nat.le_trans (by decide) hd) (rg_at hR)) ?_
    refine i_ifB (cc3 c21_24) (fun c => ?_) (fun c => ?_)
    · have h := h.1 c
      refine p_ald (cct c21_40 rfl) rfl ?_
      refine i_push (n := 402) (cc3 c21_41) zl_402 ?_
      refine id (α := Rg 402 → _) (fun _ => ?_) (by decide : Rg (402 : Int)); refine w_puti hW (cc3 c21_44) (st_k hT 6 11 (by decide)) (ji := 4) rfl ?_
      refine i_push (n := 0) (cc3 c21_47) zl_0 ?_
      refine p_ist (ls' := [(1, .int (iz 0)), (0, .ref (lo W 6))]) (cc3 c21_48) (by decide) rfl ?_
      exact p_lc (ls' := [(0, .ref (lo W 6)), (1, .int (iz 0))]) c21_49 rfl rfl h
    · have h := h.2 c
      refine p_ald (cc3 c21_27) rfl ?_
      refine p_dup (cc3 c21_28) rfl ?_
      refine w_geti hW (v := A 6 7) (cc3 c21_29) (st_k hT 6 11 (by decide)) (ji := 7) rfl rfl ?_
      refine i_push (n := 1) (cc3 c21_32) zl_1 ?_
      obtain ⟨g2, h⟩ := h
      refine (fun _ : Rg ((A 6 7) + 1) => i_add (cc3 c21_33) ?_) g2
      refine id (α := Rg ((A 6 7) + 1) → _) (fun _ => ?_) g2; refine w_puti hW (cc3 c21_34) (st_k hT 6 11 (by decide)) (ji := 7) rfl ?_
      refine p_goto (cc3 c21_37) ?_
      exact h
theorem V21_49 {d : Nat} (hd : 5 ≤ d) {Q : Option Value → xM → Prop} {W : gW} (hW : HW W) {A : Nat → Int → Int} {P : Nat → Int → Nat} (hR : RG A) (hT : Stat W P) (hG : GL W) {x1 : Int} (rr : Rg x1) (h : (((11 ≤ x1) → Q none (Wm W A P)) ∧ (¬ (11 ≤ x1) → (SOK W P (wdR x1)) ∧ (∀ k : Int, 0 ≤ k → k < gL W ((wdR x1) + 1) → 0 ≤ A ((wdR x1) + 1) k ∧ A ((wdR x1) + 1) k ≤ 127) ∧ (P 6 3 = 1 + 1) ∧ (0 ≤ A 6 6 ∧ A 6 6 ≤ 1000) ∧ (-1000 ≤ A 6 7 ∧ A 6 7 ≤ 1000) ∧ ((¬ (A 6 7 - A 6 6 = (gL W ((wdR x1) + 1) : Int) ∧ spB (A ((wdR x1) + 1)) (k_at A) (A 6 6) (gL W ((wdR x1) + 1)) = true) → (Rg (x1 + 1)) ∧ wpE (xT 21) (xev xT d) Q (49, [(0, .ref (lo W 6)), (1, .int (iz (x1 + 1)))], [], Wm W A P)) ∧ ((A 6 7 - A 6 6 = (gL W ((wdR x1) + 1) : Int) ∧ spB (A ((wdR x1) + 1)) (k_at A) (A 6 6) (gL W ((wdR x1) + 1)) = true) → (Rg (200 + x1)) ∧ (Rg (x1 + 1)) ∧ wpE (xT 21) (xev xT d) Q (49, [(0, .ref (lo W 6)), (1, .int (iz (x1 + 1)))], [], Wm W (UA A 6 4 (200 + x1)) P)))))) : wpE (xT 21) (xev xT d) Q (49, [(0, .ref (lo W 6)), (1, .int (iz x1))], [], Wm W A P) := by
  refine p_ild (cct c21_49 rfl) rfl ?_
  refine i_push (n := 11) (cc3 c21_50) zl_11 ?_
  refine i_icmp (c' := 11 ≤ x1) (cc3 c21_52) (iz_le (by decide : Rg (11 : Int)) rr) (fun c => ?_) (fun c => ?_)
  · have h := h.1 c
    exact p_rv (cc3 c21_81) h
  · have h := h.2 c
    refine p_ald (cc3 c21_55) rfl ?_
    refine p_ild (cc3 c21_56) rfl ?_
    refine p_callS (cc3 c21_57) (Nat.le_of_ble_eq_true rfl) rfl rfl (Nat.le_of_ble_eq_true rfl) (S22 (Nat.le_trans (by decide) hd) hW hR hT hG rr) ?_
    obtain ⟨g1, h⟩ := h
    obtain ⟨g2, h⟩ := h
    obtain ⟨g3, h⟩ := h
    obtain ⟨g4, h⟩ := h
    obtain ⟨g5, h⟩ := h
    refine p_callV (cc3 c21_60) (Nat.le_of_ble_eq_true rfl) rfl rfl (Nat.le_of_ble_eq_true rfl) (wk_kd hW (by decide) (st_k hT 6 11 (by decide))) (S23 (Nat.le_trans (by decide) hd) hW hR hT hG ⟨g1, g2, g3, g4, g5⟩) ?_
    refine i_ifB (cc3 c21_63) (fun c => ?_) (fun c => ?_)
    · have h := h.1 c
      obtain ⟨g6, h⟩ := h
      refine (fun _ : Rg (x1 + 1) => i_iinc (n := 1) (y := x1 + 1) (ls' := [(1, .int (iz (x1 + 1))), (0, .ref (lo W 6))]) (cct c21_75 rfl) (by decide) rfl zl_1 (by first | rfl | omega) rfl ?_) g6
      refine p_goto (cc3 c21_78) ?_
      exact p_lc (ls' := [(0, .ref (lo W 6)), (1, .int (iz (x1 + 1)))]) c21_49 rfl rfl h
    · have h := h.2 c
      refine p_ald (cc3 c21_66) rfl ?_
      refine i_push (n := 200) (cc3 c21_67) zl_200 ?_
      refine p_ild (cc3 c21_70) rfl ?_
      obtain ⟨g6, h⟩ := h
      refine (fun _ : Rg (200 + x1) => i_add (cc3 c21_71) ?_) g6
      refine id (α := Rg (200 + x1) → _) (fun _ => ?_) g6; refine w_puti hW (cc3 c21_72) (st_k hT 6 11 (by decide)) (ji := 4) rfl ?_
      obtain ⟨g7, h⟩ := h
      refine (fun _ : Rg (x1 + 1) => i_iinc (n := 1) (y := x1 + 1) (ls' := [(1, .int (iz (x1 + 1))), (0, .ref (lo W 6))]) (cct c21_75 rfl) (by decide) rfl zl_1 (by first | rfl | omega) rfl ?_) g7
      refine p_goto (cc3 c21_78) ?_
      exact p_lc (ls' := [(0, .ref (lo W 6)), (1, .int (iz (x1 + 1)))]) c21_49 rfl rfl h

theorem L21b {d : Nat} (hd : 5 ≤ d) {Q : Option Value → xM → Prop} {t : Int → Int} {W : gW} (hW : HW W) {A0 : Nat → Int → Int} {P : Nat → Int → Nat} (hT : Stat W P) (hG : GL W) (p1 : TpR A0 t) (p2 : StrA A0) (p3 : P 6 3 = 1 + 1) (p4 : 0 ≤ A0 6 6 ∧ A0 6 6 < A0 6 7 ∧ A0 6 7 ≤ A0 1 1)
    (hQ : ∀ A', RG A' → Fo 6 [] [4] A0 A' → A' 6 4 = tkw (fun w => decide (spW W A0 w)) 11 → Q none (Wm W A' P)) :
    ∀ (n k : Nat) (A : Nat → Int → Int), k + n = 11 → RG A → Fo 6 [] [4] A0 A → A 6 4 = tkw (fun w => decide (spW W A0 w)) k → wpE (xT 21) (xev xT d) Q (49, [(0, .ref (lo W 6)), (1, .int (iz k))], [], Wm W A P) := by
  intro n
  induction n with
  | zero =>
    intro k A hk hR hF h4
    have e : k = 11 := by omega
    subst e
    exact V21_49 hd hW hR hT hG (by decide) ⟨fun _ => hQ A hR hF h4, fun c => absurd (by decide) c⟩
  | succ n ih =>
    intro k A hk hR hF h4
    have r : ∀ c, ¬ c = 6 → A c = A0 c := fun c h => hF.1 c (by simp) h
    have e6 : A 6 6 = A0 6 6 := hF.2 6 (by decide)
    have e7 : A 6 7 = A0 6 7 := hF.2 7 (by decide)
    have ew : wdR (k : Int) = 500 + 2 * (k + 1) := wdR_e (by omega)
    have hb := p1.1
    have hk3 : k_at A = k_at A0 := by funext p; unfold k_at; rw [r 1 (by decide), r 2 (by decide)]
    have hcond : (A 6 7 - A 6 6 = (gL W (wdR k + 1) : Int) ∧ spB (A (wdR k + 1)) (k_at A) (A 6 6) (gL W (wdR k + 1)) = true) ↔ spW W A0 k := by
      unfold spW
      rw [e6, e7, hk3, r (wdR k + 1) (by omega)]
    have hl := (hG.1 (k + 1) (by omega)).2.2.2
    refine V21_49 hd hW hR hT hG ⟨by omega, by omega⟩ ⟨fun c => absurd c (by omega), fun _ => ⟨by rw [ew]; exact s_ok hT hG (by omega), fun i hi hi2 => ?_, p3, by omega, by omega, fun c => ⟨⟨by omega, by omega⟩, ?_⟩, fun c => ⟨⟨by omega, by omega⟩, ⟨by omega, by omega⟩, ?_⟩⟩⟩
    · rw [ew, show 500 + 2 * (k + 1) + 1 = 501 + 2 * (k + 1) by omega] at hi2 ⊢
      rw [hl] at hi2
      have h1 := sB_r (k + 1) (by omega) i.toNat (by omega)
      have h2 := p2.1 (k + 1) (by omega) i.toNat (by omega)
      rw [show ((i.toNat : Nat) : Int) = i by omega] at h2
      rw [r _ (by omega), h2]; exact h1
    · refine ih (k + 1) A (by omega) hR hF ?_
      show _ = (if decide (spW W A0 k) = true then _ else tkw _ k)
      rw [if_neg (fun q => c (hcond.mpr (of_decide_eq_true q)))]; exact h4
    · refine ih (k + 1) _ (by omega) (rg_UA hR ⟨by omega, by omega⟩) (hF.fld (by decide)) ?_
      show _ = (if decide (spW W A0 k) = true then _ else tkw _ k)
      rw [if_pos (decide_eq_true (hcond.mp c)), UA_eq]
theorem L21a {d : Nat} (hd : 5 ≤ d) {Q : Option Value → xM → Prop} {t : Int → Int} {W : gW} (hW : HW W) {A0 : Nat → Int → Int} {P : Nat → Int → Nat} (hT : Stat W P) (hG : GL W) (p1 : TpR A0 t) (p2 : StrA A0) (p3 : P 6 3 = 1 + 1) (p4 : 0 ≤ A0 6 6 ∧ A0 6 6 < A0 6 7 ∧ A0 6 7 ≤ A0 1 1)
    (hQ : ∀ A', RG A' → Fo 6 [] [4, 7] A0 A' → A' 6 7 = skf isLe t (A0 1 1) (A0 6 7) → (A' 6 4 = if wkT t (A0 6 6) (A' 6 7) = -1 then 402 else 200 + wkT t (A0 6 6) (A' 6 7)) → Q none (Wm W A' P)) :
    ∀ (n : Nat) (A : Nat → Int → Int), A0 1 1 - A 6 7 = n → RG A → Fo 6 [] [7] A0 A → A0 6 7 ≤ A 6 7 → skf isLe t (A0 1 1) (A 6 7) = skf isLe t (A0 1 1) (A0 6 7) → wpE (xT 21) (xev xT d) Q (0, [(0, .ref (lo W 6))], [], Wm W A P) := by
  have fin : ∀ A : Nat → Int → Int, RG A → Fo 6 [] [7] A0 A → A0 6 7 ≤ A 6 7 → A 6 7 ≤ A0 1 1 → A 6 7 = skf isLe t (A0 1 1) (A0 6 7) → wpE (xT 21) (xev xT d) Q (49, [(0, .ref (lo W 6)), (1, .int (iz 0))], [], Wm W (UA A 6 4 402) P) := by
    intro A hR hF h67 h1 hE
    have r : ∀ c, ¬ c = 6 → A c = A0 c := fun c h => hF.1 c (by simp) h
    have e6 : A 6 6 = A0 6 6 := hF.2 6 (by decide)
    have tp : TpR (UA A 6 4 402) t := by
      refine ⟨?_, p1.2.1, ?_⟩
      · show 0 ≤ A 1 1 ∧ A 1 1 ≤ 160; rw [r 1 (by decide)]; exact p1.1
      · show ∀ i : Int, 0 ≤ i → i < A 1 1 → A 2 i = t i % 256; rw [r 1 (by decide), r 2 (by decide)]; exact p1.2.2
    have st : StrA (UA A 6 4 402) := p2.c (fun c hc => by
      have : UA A 6 4 402 c = A c := by funext i; exact UA_c (by omega)
      rw [this, r c (by omega)])
    have q6 : (UA A 6 4 402) 6 6 = A0 6 6 := e6
    have q7 : (UA A 6 4 402) 6 7 = A 6 7 := rfl
    have q1 : (UA A 6 4 402) 1 1 = A0 1 1 := by show A 1 1 = _; rw [r 1 (by decide)]
    refine L21b hd hW hT hG tp st p3 (by rw [q6, q7, q1]; omega) (fun A' hR' hF' h4 => ?_) 11 0 _ rfl (rg_UA hR (by decide)) Fo.rf rfl
    have e7 : A' 6 7 = A 6 7 := hF'.2 7 (by decide)
    refine hQ A' hR' (((hF.mono (by simp) (fun j h => by revert h; simp; omega)).fld (by decide)).tr (hF'.mono (by simp) (fun j h => by revert h; simp; omega))) (by rw [e7, hE]) ?_
    rw [h4, e7]
    refine tkw_e (fun w hw => ?_)
    rw [decide_eq_true_iff, sp_iff hG st tp (by rw [q6]; omega) (by rw [q7, q1]; exact h1) hw, q6, q7]
  intro n
  induction n with
  | zero =>
    intro A hn hR hF h67 hE
    have r : ∀ c, ¬ c = 6 → A c = A0 c := fun c h => hF.1 c (by simp) h
    have hb := p1.1
    have k1 : k_at A (A 6 7) = -1 := by unfold k_at; rw [r 1 (by decide), if_pos (by omega)]
    have hEE : A 6 7 = skf isLe t (A0 1 1) (A0 6 7) := by rw [← hE, skf_e (by omega)]
    have := fin A hR hF h67 (by omega) hEE
    refine V21_0 hd hW hR hT hG ⟨fun _ => this, fun _ => ⟨p3, fun _ => this, fun c => ?_⟩⟩
    rw [k1] at c; omega
  | succ n ih =>
    intro A hn hR hF h67 hE
    have r : ∀ c, ¬ c = 6 → A c = A0 c := fun c h => hF.1 c (by simp) h
    have hb := p1.1
    have k1 : k_at A (A 6 7) = t (A 6 7) % 256 ∧ -128 ≤ t (A 6 7) ∧ t (A 6 7) ≤ 127 := by
      have e : k_at A = k_at A0 := by funext p; unfold k_at; rw [r 1 (by decide), r 2 (by decide)]
      rw [e]; exact (p1.at (by omega)).2 (by omega)
    have hs := skf_s (P := isLe) (t := t) (n := A0 1 1) (p := A 6 7) (by omega)
    refine V21_0 hd hW hR hT hG ⟨fun c => absurd c (by omega), fun _ => ⟨p3, fun c => ?_, fun c => ⟨⟨by omega, by omega⟩, ?_⟩⟩⟩
    · rw [k1.1] at c
      rw [if_neg (by unfold isLe; rw [decide_eq_true_iff]; omega)] at hs
      exact fin A hR hF h67 (by omega) (by rw [← hE, hs])
    · rw [k1.1] at c
      rw [if_pos (by unfold isLe; rw [decide_eq_true_iff]; omega)] at hs
      have e7 : (UA A 6 7 (A 6 7 + 1)) 6 7 = A 6 7 + 1 := UA_eq
      exact ih _ (by rw [e7]; omega) (rg_UA hR ⟨by omega, by omega⟩) (hF.fld (by decide)) (by rw [e7]; omega) (by rw [e7, ← hs, hE])
theorem S21 {d : Nat} (hd : 6 ≤ d) {W : gW} (hW : HW W) {A : Nat → Int → Int} {P : Nat → Int → Nat} (hR : RG A) (hT : Stat W P) (hG : GL W) (t : Int → Int) (hp : (TpR A t) ∧ (StrA A) ∧ (P 6 3 = 1 + 1) ∧ (0 ≤ A 6 6 ∧ A 6 6 < A 6 7 ∧ A 6 7 ≤ A 1 1)) : ∃ (A' : Nat → Int → Int), xev xT d 21 [.ref (lo W 6)] (Wm W A P) none (Wm W A' P) ∧ RG A' ∧ (Fo 6 [] [4, 7] A A' ∧ A' 6 7 = skf isLe t (A 1 1) (A 6 7) ∧ A' 6 4 = if wkT t (A 6 6) (A' 6 7) = -1 then 402 else 200 + wkT t (A 6 6) (A' 6 7)) := by
  refine xev_g (i := 21) (as := [.ref (lo W 6)]) (σ := Wm W A P) (Q := fun r_ σ_ => ∃ (A' : Nat → Int → Int), r_ = none ∧ σ_ = Wm W A' P ∧ RG A' ∧ (Fo 6 [] [4, 7] A A' ∧ A' 6 7 = skf isLe t (A 1 1) (A 6 7) ∧ A' 6 4 = if wkT t (A 6 6) (A' 6 7) = -1 then 402 else 200 + wkT t (A 6 6) (A' 6 7))) (D := 5) hd (Nat.le_of_ble_eq_true rfl) (fun r_ σ_ he hq => ?_) (fun d hd => ?_)
  · obtain ⟨A', rfl, rfl, hq⟩ := hq
    exact ⟨A', he, hq⟩

  obtain ⟨p1, p2, p3, p4⟩ := hp
  exact L21a hd hW hT hG p1 p2 p3 p4 (fun A' h1 h2 h3 h4 => ⟨A', rfl, rfl, h1, h2, h3, h4⟩) (A 1 1 - A 6 7).toNat A (by omega) hR Fo.rf (Int.le_refl _) rfl
