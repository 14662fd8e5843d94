theorem kuo_1 {W : gW} {q : Nat} (h : q = 0 ∨ 29 ≤ q) : gK (KU1 W) q = gK W q ∧ gL (KU1 W) q = gL W q ∧ lo (KU1 W) q = lo W q := by
  have e1 : gK W q = gK W q := rfl
  have e2 : gL W q = gL W q := rfl
  have e3 : lo W q = lo W q := rfl
  refine ⟨?_, ?_, ?_⟩
  · show gK (KW1 (gN W 1 9 2) 1) q = _; rw [gN_K_n (by omega), gN_K_n (by omega)]
  · show gL (KW1 (gN W 1 9 2) 1) q = _; rw [gN_L_n (by omega), gN_L_n (by omega)]
  · show lo (KW1 (gN W 1 9 2) 1) q = _; rw [gN_lo_n (by omega), gN_lo_n (by omega)]
theorem kuk_1 {W : gW} (k0 : gK W 0 = 12 ∧ gL W 0 = 16) {q : Nat} (h : q < 3) : gK (KU1 W) q = kst q ∧ gL (KU1 W) q = lst_ q := by
  by_cases e : q < 1
  · have e0 : q = 0 := by omega
    subst e0
    have e12 := k0
    refine ⟨?_, ?_⟩
    · show gK (KW1 (gN W 1 9 2) 1) 0 = _; rw [gN_K_n (by decide), gN_K_n (by decide)]; exact e12.1
    · show gL (KW1 (gN W 1 9 2) 1) 0 = _; rw [gN_L_n (by decide), gN_L_n (by decide)]; exact e12.2
  · rcases (by omega : q = 1 ∨ q = 2) with rfl | rfl
    · refine ⟨?_, ?_⟩
      · show gK (KW1 (gN W 1 9 2) 1) 1 = _; rw [gN_K_n (by decide), gN_K_e]; rfl
      · show gL (KW1 (gN W 1 9 2) 1) 1 = _; rw [gN_L_n (by decide), gN_L_e]; rfl
    · refine ⟨?_, ?_⟩
      · show gK (KW1 (gN W 1 9 2) 1) 2 = _; rw [gN_K_e]; rfl
      · show gL (KW1 (gN W 1 9 2) 1) 2 = _; rw [gN_L_e]; rfl
theorem kqo_1 {P : Nat → Int → Nat} {q : Nat} (h : 29 ≤ q) : KQ1 P q = P q := by
  show (UP (UP P 1 0 (1 + 1 + 1)) 0 0 (1 + 1)) q = _
  rw [UP_n (by omega), UP_n (by omega)]
theorem kuo_2 {W : gW} {q : Nat} (h : q = 0 ∨ 29 ≤ q) : gK (KU2 W) q = gK W q ∧ gL (KU2 W) q = gL W q ∧ lo (KU2 W) q = lo W q := by
  obtain ⟨e1, e2, e3⟩ := kuo_1 (W := W) h
  refine ⟨?_, ?_, ?_⟩
  · show gK (KW2 (gN (KU1 W) 3 7 4) 3) q = _; rw [gN_K_n (by omega), gN_K_n (by omega), gN_K_n (by omega)]; exact e1
  · show gL (KW2 (gN (KU1 W) 3 7 4) 3) q = _; rw [gN_L_n (by omega), gN_L_n (by omega), gN_L_n (by omega)]; exact e2
  · show lo (KW2 (gN (KU1 W) 3 7 4) 3) q = _; rw [gN_lo_n (by omega), gN_lo_n (by omega), gN_lo_n (by omega)]; exact e3
theorem kuk_2 {W : gW} (k0 : gK W 0 = 12 ∧ gL W 0 = 16) {q : Nat} (h : q < 6) : gK (KU2 W) q = kst q ∧ gL (KU2 W) q = lst_ q := by
  by_cases e : q < 3
  · have e12 := kuk_1 k0 e
    refine ⟨?_, ?_⟩
    · show gK (KW2 (gN (KU1 W) 3 7 4) 3) q = _; rw [gN_K_n (by omega), gN_K_n (by omega), gN_K_n (by omega)]; exact e12.1
    · show gL (KW2 (gN (KU1 W) 3 7 4) 3) q = _; rw [gN_L_n (by omega), gN_L_n (by omega), gN_L_n (by omega)]; exact e12.2
  · rcases (by omega : q = 3 ∨ q = 4 ∨ q = 5) with rfl | rfl | rfl
    · refine ⟨?_, ?_⟩
      · show gK (KW2 (gN (KU1 W) 3 7 4) 3) 3 = _; rw [gN_K_n (by decide), gN_K_n (by decide), gN_K_e]; rfl
      · show gL (KW2 (gN (KU1 W) 3 7 4) 3) 3 = _; rw [gN_L_n (by decide), gN_L_n (by decide), gN_L_e]; rfl
    · refine ⟨?_, ?_⟩
      · show gK (KW2 (gN (KU1 W) 3 7 4) 3) 4 = _; rw [gN_K_n (by decide), gN_K_e]; rfl
      · show gL (KW2 (gN (KU1 W) 3 7 4) 3) 4 = _; rw [gN_L_n (by decide), gN_L_e]; rfl
    · refine ⟨?_, ?_⟩
      · show gK (KW2 (gN (KU1 W) 3 7 4) 3) 5 = _; rw [gN_K_e]; rfl
      · show gL (KW2 (gN (KU1 W) 3 7 4) 3) 5 = _; rw [gN_L_e]; rfl
theorem kqo_2 {P : Nat → Int → Nat} {q : Nat} (h : 29 ≤ q) : KQ2 P q = P q := by
  show (UP (UP (UP (KQ1 P) 3 0 (3 + 1 + 1)) 3 1 (3 + 2 + 1)) 0 1 (3 + 1)) q = _
  rw [UP_n (by omega), UP_n (by omega), UP_n (by omega)]
  exact kqo_1 h
theorem kuo_3 {W : gW} {q : Nat} (h : q = 0 ∨ 29 ≤ q) : gK (KU3 W) q = gK W q ∧ gL (KU3 W) q = gL W q ∧ lo (KU3 W) q = lo W q := by
  obtain ⟨e1, e2, e3⟩ := kuo_2 (W := W) h
  refine ⟨?_, ?_, ?_⟩
  · show gK (KW3 (gN (KU2 W) 6 11 9) 6) q = _; rw [gN_K_n (by omega), gN_K_n (by omega)]; exact e1
  · show gL (KW3 (gN (KU2 W) 6 11 9) 6) q = _; rw [gN_L_n (by omega), gN_L_n (by omega)]; exact e2
  · show lo (KW3 (gN (KU2 W) 6 11 9) 6) q = _; rw [gN_lo_n (by omega), gN_lo_n (by omega)]; exact e3
theorem kuk_3 {W : gW} (k0 : gK W 0 = 12 ∧ gL W 0 = 16) {q : Nat} (h : q < 8) : gK (KU3 W) q = kst q ∧ gL (KU3 W) q = lst_ q := by
  by_cases e : q < 6
  · have e12 := kuk_2 k0 e
    refine ⟨?_, ?_⟩
    · show gK (KW3 (gN (KU2 W) 6 11 9) 6) q = _; rw [gN_K_n (by omega), gN_K_n (by omega)]; exact e12.1
    · show gL (KW3 (gN (KU2 W) 6 11 9) 6) q = _; rw [gN_L_n (by omega), gN_L_n (by omega)]; exact e12.2
  · rcases (by omega : q = 6 ∨ q = 7) with rfl | rfl
    · refine ⟨?_, ?_⟩
      · show gK (KW3 (gN (KU2 W) 6 11 9) 6) 6 = _; rw [gN_K_n (by decide), gN_K_e]; rfl
      · show gL (KW3 (gN (KU2 W) 6 11 9) 6) 6 = _; rw [gN_L_n (by decide), gN_L_e]; rfl
    · refine ⟨?_, ?_⟩
      · show gK (KW3 (gN (KU2 W) 6 11 9) 6) 7 = _; rw [gN_K_e]; rfl
      · show gL (KW3 (gN (KU2 W) 6 11 9) 6) 7 = _; rw [gN_L_e]; rfl
theorem kqo_3 {P : Nat → Int → Nat} {q : Nat} (h : 29 ≤ q) : KQ3 P q = P q := by
  show (UP (UP (KQ2 P) 6 0 (6 + 1 + 1)) 0 2 (6 + 1)) q = _
  rw [UP_n (by omega), UP_n (by omega)]
  exact kqo_2 h
theorem kuo_4 {W : gW} {q : Nat} (h : q = 0 ∨ 29 ≤ q) : gK (KU4 W) q = gK W q ∧ gL (KU4 W) q = gL W q ∧ lo (KU4 W) q = lo W q := by
  obtain ⟨e1, e2, e3⟩ := kuo_3 (W := W) h
  refine ⟨?_, ?_, ?_⟩
  · show gK (KW4 (gN (KU3 W) 8 4 8) 8) q = _; rw [gN_K_n (by omega), gN_K_n (by omega), gN_K_n (by omega)]; exact e1
  · show gL (KW4 (gN (KU3 W) 8 4 8) 8) q = _; rw [gN_L_n (by omega), gN_L_n (by omega), gN_L_n (by omega)]; exact e2
  · show lo (KW4 (gN (KU3 W) 8 4 8) 8) q = _; rw [gN_lo_n (by omega), gN_lo_n (by omega), gN_lo_n (by omega)]; exact e3
theorem kuk_4 {W : gW} (k0 : gK W 0 = 12 ∧ gL W 0 = 16) {q : Nat} (h : q < 11) : gK (KU4 W) q = kst q ∧ gL (KU4 W) q = lst_ q := by
  by_cases e : q < 8
  · have e12 := kuk_3 k0 e
    refine ⟨?_, ?_⟩
    · show gK (KW4 (gN (KU3 W) 8 4 8) 8) q = _; rw [gN_K_n (by omega), gN_K_n (by omega), gN_K_n (by omega)]; exact e12.1
    · show gL (KW4 (gN (KU3 W) 8 4 8) 8) q = _; rw [gN_L_n (by omega), gN_L_n (by omega), gN_L_n (by omega)]; exact e12.2
  · rcases (by omega : q = 8 ∨ q = 9 ∨ q = 10) with rfl | rfl | rfl
    · refine ⟨?_, ?_⟩
      · show gK (KW4 (gN (KU3 W) 8 4 8) 8) 8 = _; rw [gN_K_n (by decide), gN_K_n (by decide), gN_K_e]; rfl
      · show gL (KW4 (gN (KU3 W) 8 4 8) 8) 8 = _; rw [gN_L_n (by decide), gN_L_n (by decide), gN_L_e]; rfl
    · refine ⟨?_, ?_⟩
      · show gK (KW4 (gN (KU3 W) 8 4 8) 8) 9 = _; rw [gN_K_n (by decide), gN_K_e]; rfl
      · show gL (KW4 (gN (KU3 W) 8 4 8) 8) 9 = _; rw [gN_L_n (by decide), gN_L_e]; rfl
    · refine ⟨?_, ?_⟩
      · show gK (KW4 (gN (KU3 W) 8 4 8) 8) 10 = _; rw [gN_K_e]; rfl
      · show gL (KW4 (gN (KU3 W) 8 4 8) 8) 10 = _; rw [gN_L_e]; rfl
theorem kqo_4 {P : Nat → Int → Nat} {q : Nat} (h : 29 ≤ q) : KQ4 P q = P q := by
  show (UP (UP (UP (KQ3 P) 8 0 (8 + 1 + 1)) 8 1 (8 + 2 + 1)) 0 3 (8 + 1)) q = _
  rw [UP_n (by omega), UP_n (by omega), UP_n (by omega)]
  exact kqo_3 h
theorem kuo_5 {W : gW} {q : Nat} (h : q = 0 ∨ 29 ≤ q) : gK (KU5 W) q = gK W q ∧ gL (KU5 W) q = gL W q ∧ lo (KU5 W) q = lo W q := by
  obtain ⟨e1, e2, e3⟩ := kuo_4 (W := W) h
  refine ⟨?_, ?_, ?_⟩
  · show gK (KW5 (gN (KU4 W) 11 2 6) 11) q = _; rw [gN_K_n (by omega), gN_K_n (by omega), gN_K_n (by omega), gN_K_n (by omega), gN_K_n (by omega)]; exact e1
  · show gL (KW5 (gN (KU4 W) 11 2 6) 11) q = _; rw [gN_L_n (by omega), gN_L_n (by omega), gN_L_n (by omega), gN_L_n (by omega), gN_L_n (by omega)]; exact e2
  · show lo (KW5 (gN (KU4 W) 11 2 6) 11) q = _; rw [gN_lo_n (by omega), gN_lo_n (by omega), gN_lo_n (by omega), gN_lo_n (by omega), gN_lo_n (by omega)]; exact e3
theorem kuk_5 {W : gW} (k0 : gK W 0 = 12 ∧ gL W 0 = 16) {q : Nat} (h : q < 16) : gK (KU5 W) q = kst q ∧ gL (KU5 W) q = lst_ q := by
  by_cases e : q < 11
  · have e12 := kuk_4 k0 e
    refine ⟨?_, ?_⟩
    · show gK (KW5 (gN (KU4 W) 11 2 6) 11) q = _; rw [gN_K_n (by omega), gN_K_n (by omega), gN_K_n (by omega), gN_K_n (by omega), gN_K_n (by omega)]; exact e12.1
    · show gL (KW5 (gN (KU4 W) 11 2 6) 11) q = _; rw [gN_L_n (by omega), gN_L_n (by omega), gN_L_n (by omega), gN_L_n (by omega), gN_L_n (by omega)]; exact e12.2
  · rcases (by omega : q = 11 ∨ q = 12 ∨ q = 13 ∨ q = 14 ∨ q = 15) with rfl | rfl | rfl | rfl | rfl
    · refine ⟨?_, ?_⟩
      · show gK (KW5 (gN (KU4 W) 11 2 6) 11) 11 = _; rw [gN_K_n (by decide), gN_K_n (by decide), gN_K_n (by decide), gN_K_n (by decide), gN_K_e]; rfl
      · show gL (KW5 (gN (KU4 W) 11 2 6) 11) 11 = _; rw [gN_L_n (by decide), gN_L_n (by decide), gN_L_n (by decide), gN_L_n (by decide), gN_L_e]; rfl
    · refine ⟨?_, ?_⟩
      · show gK (KW5 (gN (KU4 W) 11 2 6) 11) 12 = _; rw [gN_K_n (by decide), gN_K_n (by decide), gN_K_n (by decide), gN_K_e]; rfl
      · show gL (KW5 (gN (KU4 W) 11 2 6) 11) 12 = _; rw [gN_L_n (by decide), gN_L_n (by decide), gN_L_n (by decide), gN_L_e]; rfl
    · refine ⟨?_, ?_⟩
      · show gK (KW5 (gN (KU4 W) 11 2 6) 11) 13 = _; rw [gN_K_n (by decide), gN_K_n (by decide), gN_K_e]; rfl
      · show gL (KW5 (gN (KU4 W) 11 2 6) 11) 13 = _; rw [gN_L_n (by decide), gN_L_n (by decide), gN_L_e]; rfl
    · refine ⟨?_, ?_⟩
      · show gK (KW5 (gN (KU4 W) 11 2 6) 11) 14 = _; rw [gN_K_n (by decide), gN_K_e]; rfl
      · show gL (KW5 (gN (KU4 W) 11 2 6) 11) 14 = _; rw [gN_L_n (by decide), gN_L_e]; rfl
    · refine ⟨?_, ?_⟩
      · show gK (KW5 (gN (KU4 W) 11 2 6) 11) 15 = _; rw [gN_K_e]; rfl
      · show gL (KW5 (gN (KU4 W) 11 2 6) 11) 15 = _; rw [gN_L_e]; rfl
theorem kqo_5 {P : Nat → Int → Nat} {q : Nat} (h : 29 ≤ q) : KQ5 P q = P q := by
  show (UP (UP (UP (UP (UP (KQ4 P) 11 0 (11 + 1 + 1)) 11 1 (11 + 2 + 1)) 11 2 (11 + 3 + 1)) 11 3 (11 + 4 + 1)) 0 4 (11 + 1)) q = _
  rw [UP_n (by omega), UP_n (by omega), UP_n (by omega), UP_n (by omega), UP_n (by omega)]
  exact kqo_4 h
theorem kuo_6 {W : gW} {q : Nat} (h : q = 0 ∨ 29 ≤ q) : gK (KU6 W) q = gK W q ∧ gL (KU6 W) q = gL W q ∧ lo (KU6 W) q = lo W q := by
  obtain ⟨e1, e2, e3⟩ := kuo_5 (W := W) h
  refine ⟨?_, ?_, ?_⟩
  · show gK (gN (KU5 W) 16 23 4) q = _; rw [gN_K_n (by omega)]; exact e1
  · show gL (gN (KU5 W) 16 23 4) q = _; rw [gN_L_n (by omega)]; exact e2
  · show lo (gN (KU5 W) 16 23 4) q = _; rw [gN_lo_n (by omega)]; exact e3
theorem kuk_6 {W : gW} (k0 : gK W 0 = 12 ∧ gL W 0 = 16) {q : Nat} (h : q < 17) : gK (KU6 W) q = kst q ∧ gL (KU6 W) q = lst_ q := by
  by_cases e : q < 16
  · have e12 := kuk_5 k0 e
    refine ⟨?_, ?_⟩
    · show gK (gN (KU5 W) 16 23 4) q = _; rw [gN_K_n (by omega)]; exact e12.1
    · show gL (gN (KU5 W) 16 23 4) q = _; rw [gN_L_n (by omega)]; exact e12.2
  · rcases (by omega : q = 16) with rfl
    · refine ⟨?_, ?_⟩
      · show gK (gN (KU5 W) 16 23 4) 16 = _; rw [gN_K_e]; rfl
      · show gL (gN (KU5 W) 16 23 4) 16 = _; rw [gN_L_e]; rfl
theorem kqo_6 {P : Nat → Int → Nat} {q : Nat} (h : 29 ≤ q) : KQ6 P q = P q := by
  show (UP (KQ5 P) 0 5 (16 + 1)) q = _
  rw [UP_n (by omega)]
  exact kqo_5 h
theorem kuo_7 {W : gW} {q : Nat} (h : q = 0 ∨ 29 ≤ q) : gK (KU7 W) q = gK W q ∧ gL (KU7 W) q = gL W q ∧ lo (KU7 W) q = lo W q := by
  obtain ⟨e1, e2, e3⟩ := kuo_6 (W := W) h
  refine ⟨?_, ?_, ?_⟩
  · show gK (gN (KU6 W) 17 24 4) q = _; rw [gN_K_n (by omega)]; exact e1
  · show gL (gN (KU6 W) 17 24 4) q = _; rw [gN_L_n (by omega)]; exact e2
  · show lo (gN (KU6 W) 17 24 4) q = _; rw [gN_lo_n (by omega)]; exact e3
theorem kuk_7 {W : gW} (k0 : gK W 0 = 12 ∧ gL W 0 = 16) {q : Nat} (h : q < 18) : gK (KU7 W) q = kst q ∧ gL (KU7 W) q = lst_ q := by
  by_cases e : q < 17
  · have e12 := kuk_6 k0 e
    refine ⟨?_, ?_⟩
    · show gK (gN (KU6 W) 17 24 4) q = _; rw [gN_K_n (by omega)]; exact e12.1
    · show gL (gN (KU6 W) 17 24 4) q = _; rw [gN_L_n (by omega)]; exact e12.2
  · rcases (by omega : q = 17) with rfl
    · refine ⟨?_, ?_⟩
      · show gK (gN (KU6 W) 17 24 4) 17 = _; rw [gN_K_e]; rfl
      · show gL (gN (KU6 W) 17 24 4) 17 = _; rw [gN_L_e]; rfl
theorem kqo_7 {P : Nat → Int → Nat} {q : Nat} (h : 29 ≤ q) : KQ7 P q = P q := by
  show (UP (KQ6 P) 0 6 (17 + 1)) q = _
  rw [UP_n (by omega)]
  exact kqo_6 h
theorem kuo_8 {W : gW} {q : Nat} (h : q = 0 ∨ 29 ≤ q) : gK (KU8 W) q = gK W q ∧ gL (KU8 W) q = gL W q ∧ lo (KU8 W) q = lo W q := by
  obtain ⟨e1, e2, e3⟩ := kuo_7 (W := W) h
  refine ⟨?_, ?_, ?_⟩
  · show gK (gN (KU7 W) 18 25 8) q = _; rw [gN_K_n (by omega)]; exact e1
  · show gL (gN (KU7 W) 18 25 8) q = _; rw [gN_L_n (by omega)]; exact e2
  · show lo (gN (KU7 W) 18 25 8) q = _; rw [gN_lo_n (by omega)]; exact e3
theorem kuk_8 {W : gW} (k0 : gK W 0 = 12 ∧ gL W 0 = 16) {q : Nat} (h : q < 19) : gK (KU8 W) q = kst q ∧ gL (KU8 W) q = lst_ q := by
  by_cases e : q < 18
  · have e12 := kuk_7 k0 e
    refine ⟨?_, ?_⟩
    · show gK (gN (KU7 W) 18 25 8) q = _; rw [gN_K_n (by omega)]; exact e12.1
    · show gL (gN (KU7 W) 18 25 8) q = _; rw [gN_L_n (by omega)]; exact e12.2
  · rcases (by omega : q = 18) with rfl
    · refine ⟨?_, ?_⟩
      · show gK (gN (KU7 W) 18 25 8) 18 = _; rw [gN_K_e]; rfl
      · show gL (gN (KU7 W) 18 25 8) 18 = _; rw [gN_L_e]; rfl
theorem kqo_8 {P : Nat → Int → Nat} {q : Nat} (h : 29 ≤ q) : KQ8 P q = P q := by
  show (UP (KQ7 P) 0 7 (18 + 1)) q = _
  rw [UP_n (by omega)]
  exact kqo_7 h
theorem kuo_9 {W : gW} {q : Nat} (h : q = 0 ∨ 29 ≤ q) : gK (KU9 W) q = gK W q ∧ gL (KU9 W) q = gL W q ∧ lo (KU9 W) q = lo W q := by
  obtain ⟨e1, e2, e3⟩ := kuo_8 (W := W) h
  refine ⟨?_, ?_, ?_⟩
  · show gK (gN (KU8 W) 19 26 6) q = _; rw [gN_K_n (by omega)]; exact e1
  · show gL (gN (KU8 W) 19 26 6) q = _; rw [gN_L_n (by omega)]; exact e2
  · show lo (gN (KU8 W) 19 26 6) q = _; rw [gN_lo_n (by omega)]; exact e3
theorem kuk_9 {W : gW} (k0 : gK W 0 = 12 ∧ gL W 0 = 16) {q : Nat} (h : q < 20) : gK (KU9 W) q = kst q ∧ gL (KU9 W) q = lst_ q := by
  by_cases e : q < 19
  · have e12 := kuk_8 k0 e
    refine ⟨?_, ?_⟩
    · show gK (gN (KU8 W) 19 26 6) q = _; rw [gN_K_n (by omega)]; exact e12.1
    · show gL (gN (KU8 W) 19 26 6) q = _; rw [gN_L_n (by omega)]; exact e12.2
  · rcases (by omega : q = 19) with rfl
    · refine ⟨?_, ?_⟩
      · show gK (gN (KU8 W) 19 26 6) 19 = _; rw [gN_K_e]; rfl
      · show gL (gN (KU8 W) 19 26 6) 19 = _; rw [gN_L_e]; rfl
theorem kqo_9 {P : Nat → Int → Nat} {q : Nat} (h : 29 ≤ q) : KQ9 P q = P q := by
  show (UP (KQ8 P) 0 8 (19 + 1)) q = _
  rw [UP_n (by omega)]
  exact kqo_8 h
theorem kuo_10 {W : gW} {q : Nat} (h : q = 0 ∨ 29 ≤ q) : gK (KU10 W) q = gK W q ∧ gL (KU10 W) q = gL W q ∧ lo (KU10 W) q = lo W q := by
  obtain ⟨e1, e2, e3⟩ := kuo_9 (W := W) h
  refine ⟨?_, ?_, ?_⟩
  · show gK (gN (KU9 W) 20 27 4) q = _; rw [gN_K_n (by omega)]; exact e1
  · show gL (gN (KU9 W) 20 27 4) q = _; rw [gN_L_n (by omega)]; exact e2
  · show lo (gN (KU9 W) 20 27 4) q = _; rw [gN_lo_n (by omega)]; exact e3
theorem kuk_10 {W : gW} (k0 : gK W 0 = 12 ∧ gL W 0 = 16) {q : Nat} (h : q < 21) : gK (KU10 W) q = kst q ∧ gL (KU10 W) q = lst_ q := by
  by_cases e : q < 20
  · have e12 := kuk_9 k0 e
    refine ⟨?_, ?_⟩
    · show gK (gN (KU9 W) 20 27 4) q = _; rw [gN_K_n (by omega)]; exact e12.1
    · show gL (gN (KU9 W) 20 27 4) q = _; rw [gN_L_n (by omega)]; exact e12.2
  · rcases (by omega : q = 20) with rfl
    · refine ⟨?_, ?_⟩
      · show gK (gN (KU9 W) 20 27 4) 20 = _; rw [gN_K_e]; rfl
      · show gL (gN (KU9 W) 20 27 4) 20 = _; rw [gN_L_e]; rfl
theorem kqo_10 {P : Nat → Int → Nat} {q : Nat} (h : 29 ≤ q) : KQ10 P q = P q := by
  show (UP (KQ9 P) 0 9 (20 + 1)) q = _
  rw [UP_n (by omega)]
  exact kqo_9 h
theorem kuo_11 {W : gW} {q : Nat} (h : q = 0 ∨ 29 ≤ q) : gK (KU11 W) q = gK W q ∧ gL (KU11 W) q = gL W q ∧ lo (KU11 W) q = lo W q := by
  obtain ⟨e1, e2, e3⟩ := kuo_10 (W := W) h
  refine ⟨?_, ?_, ?_⟩
  · show gK (KW7 (gN (KU10 W) 21 8 3) 21) q = _; rw [gN_K_n (by omega), gN_K_n (by omega)]; exact e1
  · show gL (KW7 (gN (KU10 W) 21 8 3) 21) q = _; rw [gN_L_n (by omega), gN_L_n (by omega)]; exact e2
  · show lo (KW7 (gN (KU10 W) 21 8 3) 21) q = _; rw [gN_lo_n (by omega), gN_lo_n (by omega)]; exact e3
theorem kuk_11 {W : gW} (k0 : gK W 0 = 12 ∧ gL W 0 = 16) {q : Nat} (h : q < 23) : gK (KU11 W) q = kst q ∧ gL (KU11 W) q = lst_ q := by
  by_cases e : q < 21
  · have e12 := kuk_10 k0 e
    refine ⟨?_, ?_⟩
    · show gK (KW7 (gN (KU10 W) 21 8 3) 21) q = _; rw [gN_K_n (by omega), gN_K_n (by omega)]; exact e12.1
    · show gL (KW7 (gN (KU10 W) 21 8 3) 21) q = _; rw [gN_L_n (by omega), gN_L_n (by omega)]; exact e12.2
  · rcases (by omega : q = 21 ∨ q = 22) with rfl | rfl
    · refine ⟨?_, ?_⟩
      · show gK (KW7 (gN (KU10 W) 21 8 3) 21) 21 = _; rw [gN_K_n (by decide), gN_K_e]; rfl
      · show gL (KW7 (gN (KU10 W) 21 8 3) 21) 21 = _; rw [gN_L_n (by decide), gN_L_e]; rfl
    · refine ⟨?_, ?_⟩
      · show gK (KW7 (gN (KU10 W) 21 8 3) 21) 22 = _; rw [gN_K_e]; rfl
      · show gL (KW7 (gN (KU10 W) 21 8 3) 21) 22 = _; rw [gN_L_e]; rfl
theorem kqo_11 {P : Nat → Int → Nat} {q : Nat} (h : 29 ≤ q) : KQ11 P q = P q := by
  show (UP (UP (KQ10 P) 21 0 (21 + 1 + 1)) 20 0 (21 + 1)) q = _
  rw [UP_n (by omega), UP_n (by omega)]
  exact kqo_10 h
theorem kuo_12 {W : gW} {q : Nat} (h : q = 0 ∨ 29 ≤ q) : gK (KU12 W) q = gK W q ∧ gL (KU12 W) q = gL W q ∧ lo (KU12 W) q = lo W q := by
  obtain ⟨e1, e2, e3⟩ := kuo_11 (W := W) h
  refine ⟨?_, ?_, ?_⟩
  · show gK (KW7 (gN (KU11 W) 23 8 3) 23) q = _; rw [gN_K_n (by omega), gN_K_n (by omega)]; exact e1
  · show gL (KW7 (gN (KU11 W) 23 8 3) 23) q = _; rw [gN_L_n (by omega), gN_L_n (by omega)]; exact e2
  · show lo (KW7 (gN (KU11 W) 23 8 3) 23) q = _; rw [gN_lo_n (by omega), gN_lo_n (by omega)]; exact e3
theorem kuk_12 {W : gW} (k0 : gK W 0 = 12 ∧ gL W 0 = 16) {q : Nat} (h : q < 25) : gK (KU12 W) q = kst q ∧ gL (KU12 W) q = lst_ q := by
  by_cases e : q < 23
  · have e12 := kuk_11 k0 e
    refine ⟨?_, ?_⟩
    · show gK (KW7 (gN (KU11 W) 23 8 3) 23) q = _; rw [gN_K_n (by omega), gN_K_n (by omega)]; exact e12.1
    · show gL (KW7 (gN (KU11 W) 23 8 3) 23) q = _; rw [gN_L_n (by omega), gN_L_n (by omega)]; exact e12.2
  · rcases (by omega : q = 23 ∨ q = 24) with rfl | rfl
    · refine ⟨?_, ?_⟩
      · show gK (KW7 (gN (KU11 W) 23 8 3) 23) 23 = _; rw [gN_K_n (by decide), gN_K_e]; rfl
      · show gL (KW7 (gN (KU11 W) 23 8 3) 23) 23 = _; rw [gN_L_n (by decide), gN_L_e]; rfl
    · refine ⟨?_, ?_⟩
      · show gK (KW7 (gN (KU11 W) 23 8 3) 23) 24 = _; rw [gN_K_e]; rfl
      · show gL (KW7 (gN (KU11 W) 23 8 3) 23) 24 = _; rw [gN_L_e]; rfl
theorem kqo_12 {P : Nat → Int → Nat} {q : Nat} (h : 29 ≤ q) : KQ12 P q = P q := by
  show (UP (UP (KQ11 P) 23 0 (23 + 1 + 1)) 20 1 (23 + 1)) q = _
  rw [UP_n (by omega), UP_n (by omega)]
  exact kqo_11 h
theorem kuo_13 {W : gW} {q : Nat} (h : q = 0 ∨ 29 ≤ q) : gK (KU13 W) q = gK W q ∧ gL (KU13 W) q = gL W q ∧ lo (KU13 W) q = lo W q := by
  obtain ⟨e1, e2, e3⟩ := kuo_12 (W := W) h
  refine ⟨?_, ?_, ?_⟩
  · show gK (KW7 (gN (KU12 W) 25 8 3) 25) q = _; rw [gN_K_n (by omega), gN_K_n (by omega)]; exact e1
  · show gL (KW7 (gN (KU12 W) 25 8 3) 25) q = _; rw [gN_L_n (by omega), gN_L_n (by omega)]; exact e2
  · show lo (KW7 (gN (KU12 W) 25 8 3) 25) q = _; rw [gN_lo_n (by omega), gN_lo_n (by omega)]; exact e3
theorem kuk_13 {W : gW} (k0 : gK W 0 = 12 ∧ gL W 0 = 16) {q : Nat} (h : q < 27) : gK (KU13 W) q = kst q ∧ gL (KU13 W) q = lst_ q := by
  by_cases e : q < 25
  · have e12 := kuk_12 k0 e
    refine ⟨?_, ?_⟩
    · show gK (KW7 (gN (KU12 W) 25 8 3) 25) q = _; rw [gN_K_n (by omega), gN_K_n (by omega)]; exact e12.1
    · show gL (KW7 (gN (KU12 W) 25 8 3) 25) q = _; rw [gN_L_n (by omega), gN_L_n (by omega)]; exact e12.2
  · rcases (by omega : q = 25 ∨ q = 26) with rfl | rfl
    · refine ⟨?_, ?_⟩
      · show gK (KW7 (gN (KU12 W) 25 8 3) 25) 25 = _; rw [gN_K_n (by decide), gN_K_e]; rfl
      · show gL (KW7 (gN (KU12 W) 25 8 3) 25) 25 = _; rw [gN_L_n (by decide), gN_L_e]; rfl
    · refine ⟨?_, ?_⟩
      · show gK (KW7 (gN (KU12 W) 25 8 3) 25) 26 = _; rw [gN_K_e]; rfl
      · show gL (KW7 (gN (KU12 W) 25 8 3) 25) 26 = _; rw [gN_L_e]; rfl
theorem kqo_13 {P : Nat → Int → Nat} {q : Nat} (h : 29 ≤ q) : KQ13 P q = P q := by
  show (UP (UP (KQ12 P) 25 0 (25 + 1 + 1)) 20 2 (25 + 1)) q = _
  rw [UP_n (by omega), UP_n (by omega)]
  exact kqo_12 h
theorem kuo_14 {W : gW} {q : Nat} (h : q = 0 ∨ 29 ≤ q) : gK (KU14 W) q = gK W q ∧ gL (KU14 W) q = gL W q ∧ lo (KU14 W) q = lo W q := by
  obtain ⟨e1, e2, e3⟩ := kuo_13 (W := W) h
  refine ⟨?_, ?_, ?_⟩
  · show gK (KW7 (gN (KU13 W) 27 8 3) 27) q = _; rw [gN_K_n (by omega), gN_K_n (by omega)]; exact e1
  · show gL (KW7 (gN (KU13 W) 27 8 3) 27) q = _; rw [gN_L_n (by omega), gN_L_n (by omega)]; exact e2
  · show lo (KW7 (gN (KU13 W) 27 8 3) 27) q = _; rw [gN_lo_n (by omega), gN_lo_n (by omega)]; exact e3
theorem kuk_14 {W : gW} (k0 : gK W 0 = 12 ∧ gL W 0 = 16) {q : Nat} (h : q < 29) : gK (KU14 W) q = kst q ∧ gL (KU14 W) q = lst_ q := by
  by_cases e : q < 27
  · have e12 := kuk_13 k0 e
    refine ⟨?_, ?_⟩
    · show gK (KW7 (gN (KU13 W) 27 8 3) 27) q = _; rw [gN_K_n (by omega), gN_K_n (by omega)]; exact e12.1
    · show gL (KW7 (gN (KU13 W) 27 8 3) 27) q = _; rw [gN_L_n (by omega), gN_L_n (by omega)]; exact e12.2
  · rcases (by omega : q = 27 ∨ q = 28) with rfl | rfl
    · refine ⟨?_, ?_⟩
      · show gK (KW7 (gN (KU13 W) 27 8 3) 27) 27 = _; rw [gN_K_n (by decide), gN_K_e]; rfl
      · show gL (KW7 (gN (KU13 W) 27 8 3) 27) 27 = _; rw [gN_L_n (by decide), gN_L_e]; rfl
    · refine ⟨?_, ?_⟩
      · show gK (KW7 (gN (KU13 W) 27 8 3) 27) 28 = _; rw [gN_K_e]; rfl
      · show gL (KW7 (gN (KU13 W) 27 8 3) 27) 28 = _; rw [gN_L_e]; rfl
theorem kqo_14 {P : Nat → Int → Nat} {q : Nat} (h : 29 ≤ q) : KQ14 P q = P q := by
  show (UP (UP (KQ13 P) 27 0 (27 + 1 + 1)) 20 3 (27 + 1)) q = _
  rw [UP_n (by omega), UP_n (by omega)]
  exact kqo_13 h
theorem kq_0_0 {P : Nat → Int → Nat} : KQ14 P 0 0 = 1 + 1 := by
  show (UP (UP (KQ13 P) 27 0 (27 + 1 + 1)) 20 3 (27 + 1)) 0 0 = _
  rw [UP_n (show ¬ 0 = 20 by decide), UP_n (show ¬ 0 = 27 by decide)]
  show (UP (UP (KQ12 P) 25 0 (25 + 1 + 1)) 20 2 (25 + 1)) 0 0 = _
  rw [UP_n (show ¬ 0 = 20 by decide), UP_n (show ¬ 0 = 25 by decide)]
  show (UP (UP (KQ11 P) 23 0 (23 + 1 + 1)) 20 1 (23 + 1)) 0 0 = _
  rw [UP_n (show ¬ 0 = 20 by decide), UP_n (show ¬ 0 = 23 by decide)]
  show (UP (UP (KQ10 P) 21 0 (21 + 1 + 1)) 20 0 (21 + 1)) 0 0 = _
  rw [UP_n (show ¬ 0 = 20 by decide), UP_n (show ¬ 0 = 21 by decide)]
  show (UP (KQ9 P) 0 9 (20 + 1)) 0 0 = _
  rw [UP_j (show ¬ (0 : Int) = 9 by decide)]
  show (UP (KQ8 P) 0 8 (19 + 1)) 0 0 = _
  rw [UP_j (show ¬ (0 : Int) = 8 by decide)]
  show (UP (KQ7 P) 0 7 (18 + 1)) 0 0 = _
  rw [UP_j (show ¬ (0 : Int) = 7 by decide)]
  show (UP (KQ6 P) 0 6 (17 + 1)) 0 0 = _
  rw [UP_j (show ¬ (0 : Int) = 6 by decide)]
  show (UP (KQ5 P) 0 5 (16 + 1)) 0 0 = _
  rw [UP_j (show ¬ (0 : Int) = 5 by decide)]
  show (UP (UP (UP (UP (UP (KQ4 P) 11 0 (11 + 1 + 1)) 11 1 (11 + 2 + 1)) 11 2 (11 + 3 + 1)) 11 3 (11 + 4 + 1)) 0 4 (11 + 1)) 0 0 = _
  rw [UP_j (show ¬ (0 : Int) = 4 by decide), UP_n (show ¬ 0 = 11 by decide), UP_n (show ¬ 0 = 11 by decide), UP_n (show ¬ 0 = 11 by decide), UP_n (show ¬ 0 = 11 by decide)]
  show (UP (UP (UP (KQ3 P) 8 0 (8 + 1 + 1)) 8 1 (8 + 2 + 1)) 0 3 (8 + 1)) 0 0 = _
  rw [UP_j (show ¬ (0 : Int) = 3 by decide), UP_n (show ¬ 0 = 8 by decide), UP_n (show ¬ 0 = 8 by decide)]
  show (UP (UP (KQ2 P) 6 0 (6 + 1 + 1)) 0 2 (6 + 1)) 0 0 = _
  rw [UP_j (show ¬ (0 : Int) = 2 by decide), UP_n (show ¬ 0 = 6 by decide)]
  show (UP (UP (UP (KQ1 P) 3 0 (3 + 1 + 1)) 3 1 (3 + 2 + 1)) 0 1 (3 + 1)) 0 0 = _
  rw [UP_j (show ¬ (0 : Int) = 1 by decide), UP_n (show ¬ 0 = 3 by decide), UP_n (show ¬ 0 = 3 by decide)]
  show (UP (UP P 1 0 (1 + 1 + 1)) 0 0 (1 + 1)) 0 0 = _
  rw [UP_e]
theorem kq_0_1 {P : Nat → Int → Nat} : KQ14 P 0 1 = 3 + 1 := by
  show (UP (UP (KQ13 P) 27 0 (27 + 1 + 1)) 20 3 (27 + 1)) 0 1 = _
  rw [UP_n (show ¬ 0 = 20 by decide), UP_n (show ¬ 0 = 27 by decide)]
  show (UP (UP (KQ12 P) 25 0 (25 + 1 + 1)) 20 2 (25 + 1)) 0 1 = _
  rw [UP_n (show ¬ 0 = 20 by decide), UP_n (show ¬ 0 = 25 by decide)]
  show (UP (UP (KQ11 P) 23 0 (23 + 1 + 1)) 20 1 (23 + 1)) 0 1 = _
  rw [UP_n (show ¬ 0 = 20 by decide), UP_n (show ¬ 0 = 23 by decide)]
  show (UP (UP (KQ10 P) 21 0 (21 + 1 + 1)) 20 0 (21 + 1)) 0 1 = _
  rw [UP_n (show ¬ 0 = 20 by decide), UP_n (show ¬ 0 = 21 by decide)]
  show (UP (KQ9 P) 0 9 (20 + 1)) 0 1 = _
  rw [UP_j (show ¬ (1 : Int) = 9 by decide)]
  show (UP (KQ8 P) 0 8 (19 + 1)) 0 1 = _
  rw [UP_j (show ¬ (1 : Int) = 8 by decide)]
  show (UP (KQ7 P) 0 7 (18 + 1)) 0 1 = _
  rw [UP_j (show ¬ (1 : Int) = 7 by decide)]
  show (UP (KQ6 P) 0 6 (17 + 1)) 0 1 = _
  rw [UP_j (show ¬ (1 : Int) = 6 by decide)]
  show (UP (KQ5 P) 0 5 (16 + 1)) 0 1 = _
  rw [UP_j (show ¬ (1 : Int) = 5 by decide)]
  show (UP (UP (UP (UP (UP (KQ4 P) 11 0 (11 + 1 + 1)) 11 1 (11 + 2 + 1)) 11 2 (11 + 3 + 1)) 11 3 (11 + 4 + 1)) 0 4 (11 + 1)) 0 1 = _
  rw [UP_j (show ¬ (1 : Int) = 4 by decide), UP_n (show ¬ 0 = 11 by decide), UP_n (show ¬ 0 = 11 by decide), UP_n (show ¬ 0 = 11 by decide), UP_n (show ¬ 0 = 11 by decide)]
  show (UP (UP (UP (KQ3 P) 8 0 (8 + 1 + 1)) 8 1 (8 + 2 + 1)) 0 3 (8 + 1)) 0 1 = _
  rw [UP_j (show ¬ (1 : Int) = 3 by decide), UP_n (show ¬ 0 = 8 by decide), UP_n (show ¬ 0 = 8 by decide)]
  show (UP (UP (KQ2 P) 6 0 (6 + 1 + 1)) 0 2 (6 + 1)) 0 1 = _
  rw [UP_j (show ¬ (1 : Int) = 2 by decide), UP_n (show ¬ 0 = 6 by decide)]
  show (UP (UP (UP (KQ1 P) 3 0 (3 + 1 + 1)) 3 1 (3 + 2 + 1)) 0 1 (3 + 1)) 0 1 = _
  rw [UP_e]
theorem kq_0_2 {P : Nat → Int → Nat} : KQ14 P 0 2 = 6 + 1 := by
  show (UP (UP (KQ13 P) 27 0 (27 + 1 + 1)) 20 3 (27 + 1)) 0 2 = _
  rw [UP_n (show ¬ 0 = 20 by decide), UP_n (show ¬ 0 = 27 by decide)]
  show (UP (UP (KQ12 P) 25 0 (25 + 1 + 1)) 20 2 (25 + 1)) 0 2 = _
  rw [UP_n (show ¬ 0 = 20 by decide), UP_n (show ¬ 0 = 25 by decide)]
  show (UP (UP (KQ11 P) 23 0 (23 + 1 + 1)) 20 1 (23 + 1)) 0 2 = _
  rw [UP_n (show ¬ 0 = 20 by decide), UP_n (show ¬ 0 = 23 by decide)]
  show (UP (UP (KQ10 P) 21 0 (21 + 1 + 1)) 20 0 (21 + 1)) 0 2 = _
  rw [UP_n (show ¬ 0 = 20 by decide), UP_n (show ¬ 0 = 21 by decide)]
  show (UP (KQ9 P) 0 9 (20 + 1)) 0 2 = _
  rw [UP_j (show ¬ (2 : Int) = 9 by decide)]
  show (UP (KQ8 P) 0 8 (19 + 1)) 0 2 = _
  rw [UP_j (show ¬ (2 : Int) = 8 by decide)]
  show (UP (KQ7 P) 0 7 (18 + 1)) 0 2 = _
  rw [UP_j (show ¬ (2 : Int) = 7 by decide)]
  show (UP (KQ6 P) 0 6 (17 + 1)) 0 2 = _
  rw [UP_j (show ¬ (2 : Int) = 6 by decide)]
  show (UP (KQ5 P) 0 5 (16 + 1)) 0 2 = _
  rw [UP_j (show ¬ (2 : Int) = 5 by decide)]
  show (UP (UP (UP (UP (UP (KQ4 P) 11 0 (11 + 1 + 1)) 11 1 (11 + 2 + 1)) 11 2 (11 + 3 + 1)) 11 3 (11 + 4 + 1)) 0 4 (11 + 1)) 0 2 = _
  rw [UP_j (show ¬ (2 : Int) = 4 by decide), UP_n (show ¬ 0 = 11 by decide), UP_n (show ¬ 0 = 11 by decide), UP_n (show ¬ 0 = 11 by decide), UP_n (show ¬ 0 = 11 by decide)]
  show (UP (UP (UP (KQ3 P) 8 0 (8 + 1 + 1)) 8 1 (8 + 2 + 1)) 0 3 (8 + 1)) 0 2 = _
  rw [UP_j (show ¬ (2 : Int) = 3 by decide), UP_n (show ¬ 0 = 8 by decide), UP_n (show ¬ 0 = 8 by decide)]
  show (UP (UP (KQ2 P) 6 0 (6 + 1 + 1)) 0 2 (6 + 1)) 0 2 = _
  rw [UP_e]
theorem kq_0_3 {P : Nat → Int → Nat} : KQ14 P 0 3 = 8 + 1 := by
  show (UP (UP (KQ13 P) 27 0 (27 + 1 + 1)) 20 3 (27 + 1)) 0 3 = _
  rw [UP_n (show ¬ 0 = 20 by decide), UP_n (show ¬ 0 = 27 by decide)]
  show (UP (UP (KQ12 P) 25 0 (25 + 1 + 1)) 20 2 (25 + 1)) 0 3 = _
  rw [UP_n (show ¬ 0 = 20 by decide), UP_n (show ¬ 0 = 25 by decide)]
  show (UP (UP (KQ11 P) 23 0 (23 + 1 + 1)) 20 1 (23 + 1)) 0 3 = _
  rw [UP_n (show ¬ 0 = 20 by decide), UP_n (show ¬ 0 = 23 by decide)]
  show (UP (UP (KQ10 P) 21 0 (21 + 1 + 1)) 20 0 (21 + 1)) 0 3 = _
  rw [UP_n (show ¬ 0 = 20 by decide), UP_n (show ¬ 0 = 21 by decide)]
  show (UP (KQ9 P) 0 9 (20 + 1)) 0 3 = _
  rw [UP_j (show ¬ (3 : Int) = 9 by decide)]
  show (UP (KQ8 P) 0 8 (19 + 1)) 0 3 = _
  rw [UP_j (show ¬ (3 : Int) = 8 by decide)]
  show (UP (KQ7 P) 0 7 (18 + 1)) 0 3 = _
  rw [UP_j (show ¬ (3 : Int) = 7 by decide)]
  show (UP (KQ6 P) 0 6 (17 + 1)) 0 3 = _
  rw [UP_j (show ¬ (3 : Int) = 6 by decide)]
  show (UP (KQ5 P) 0 5 (16 + 1)) 0 3 = _
  rw [UP_j (show ¬ (3 : Int) = 5 by decide)]
  show (UP (UP (UP (UP (UP (KQ4 P) 11 0 (11 + 1 + 1)) 11 1 (11 + 2 + 1)) 11 2 (11 + 3 + 1)) 11 3 (11 + 4 + 1)) 0 4 (11 + 1)) 0 3 = _
  rw [UP_j (show ¬ (3 : Int) = 4 by decide), UP_n (show ¬ 0 = 11 by decide), UP_n (show ¬ 0 = 11 by decide), UP_n (show ¬ 0 = 11 by decide), UP_n (show ¬ 0 = 11 by decide)]
  show (UP (UP (UP (KQ3 P) 8 0 (8 + 1 + 1)) 8 1 (8 + 2 + 1)) 0 3 (8 + 1)) 0 3 = _
  rw [UP_e]
theorem kq_0_4 {P : Nat → Int → Nat} : KQ14 P 0 4 = 11 + 1 := by
  show (UP (UP (KQ13 P) 27 0 (27 + 1 + 1)) 20 3 (27 + 1)) 0 4 = _
  rw [UP_n (show ¬ 0 = 20 by decide), UP_n (show ¬ 0 = 27 by decide)]
  show (UP (UP (KQ12 P) 25 0 (25 + 1 + 1)) 20 2 (25 + 1)) 0 4 = _
  rw [UP_n (show ¬ 0 = 20 by decide), UP_n (show ¬ 0 = 25 by decide)]
  show (UP (UP (KQ11 P) 23 0 (23 + 1 + 1)) 20 1 (23 + 1)) 0 4 = _
  rw [UP_n (show ¬ 0 = 20 by decide), UP_n (show ¬ 0 = 23 by decide)]
  show (UP (UP (KQ10 P) 21 0 (21 + 1 + 1)) 20 0 (21 + 1)) 0 4 = _
  rw [UP_n (show ¬ 0 = 20 by decide), UP_n (show ¬ 0 = 21 by decide)]
  show (UP (KQ9 P) 0 9 (20 + 1)) 0 4 = _
  rw [UP_j (show ¬ (4 : Int) = 9 by decide)]
  show (UP (KQ8 P) 0 8 (19 + 1)) 0 4 = _
  rw [UP_j (show ¬ (4 : Int) = 8 by decide)]
  show (UP (KQ7 P) 0 7 (18 + 1)) 0 4 = _
  rw [UP_j (show ¬ (4 : Int) = 7 by decide)]
  show (UP (KQ6 P) 0 6 (17 + 1)) 0 4 = _
  rw [UP_j (show ¬ (4 : Int) = 6 by decide)]
  show (UP (KQ5 P) 0 5 (16 + 1)) 0 4 = _
  rw [UP_j (show ¬ (4 : Int) = 5 by decide)]
  show (UP (UP (UP (UP (UP (KQ4 P) 11 0 (11 + 1 + 1)) 11 1 (11 + 2 + 1)) 11 2 (11 + 3 + 1)) 11 3 (11 + 4 + 1)) 0 4 (11 + 1)) 0 4 = _
  rw [UP_e]
theorem kq_0_5 {P : Nat → Int → Nat} : KQ14 P 0 5 = 16 + 1 := by
  show (UP (UP (KQ13 P) 27 0 (27 + 1 + 1)) 20 3 (27 + 1)) 0 5 = _
  rw [UP_n (show ¬ 0 = 20 by decide), UP_n (show ¬ 0 = 27 by decide)]
  show (UP (UP (KQ12 P) 25 0 (25 + 1 + 1)) 20 2 (25 + 1)) 0 5 = _
  rw [UP_n (show ¬ 0 = 20 by decide), UP_n (show ¬ 0 = 25 by decide)]
  show (UP (UP (KQ11 P) 23 0 (23 + 1 + 1)) 20 1 (23 + 1)) 0 5 = _
  rw [UP_n (show ¬ 0 = 20 by decide), UP_n (show ¬ 0 = 23 by decide)]
  show (UP (UP (KQ10 P) 21 0 (21 + 1 + 1)) 20 0 (21 + 1)) 0 5 = _
  rw [UP_n (show ¬ 0 = 20 by decide), UP_n (show ¬ 0 = 21 by decide)]
  show (UP (KQ9 P) 0 9 (20 + 1)) 0 5 = _
  rw [UP_j (show ¬ (5 : Int) = 9 by decide)]
  show (UP (KQ8 P) 0 8 (19 + 1)) 0 5 = _
  rw [UP_j (show ¬ (5 : Int) = 8 by decide)]
  show (UP (KQ7 P) 0 7 (18 + 1)) 0 5 = _
  rw [UP_j (show ¬ (5 : Int) = 7 by decide)]
  show (UP (KQ6 P) 0 6 (17 + 1)) 0 5 = _
  rw [UP_j (show ¬ (5 : Int) = 6 by decide)]
  show (UP (KQ5 P) 0 5 (16 + 1)) 0 5 = _
  rw [UP_e]
theorem kq_0_6 {P : Nat → Int → Nat} : KQ14 P 0 6 = 17 + 1 := by
  show (UP (UP (KQ13 P) 27 0 (27 + 1 + 1)) 20 3 (27 + 1)) 0 6 = _
  rw [UP_n (show ¬ 0 = 20 by decide), UP_n (show ¬ 0 = 27 by decide)]
  show (UP (UP (KQ12 P) 25 0 (25 + 1 + 1)) 20 2 (25 + 1)) 0 6 = _
  rw [UP_n (show ¬ 0 = 20 by decide), UP_n (show ¬ 0 = 25 by decide)]
  show (UP (UP (KQ11 P) 23 0 (23 + 1 + 1)) 20 1 (23 + 1)) 0 6 = _
  rw [UP_n (show ¬ 0 = 20 by decide), UP_n (show ¬ 0 = 23 by decide)]
  show (UP (UP (KQ10 P) 21 0 (21 + 1 + 1)) 20 0 (21 + 1)) 0 6 = _
  rw [UP_n (show ¬ 0 = 20 by decide), UP_n (show ¬ 0 = 21 by decide)]
  show (UP (KQ9 P) 0 9 (20 + 1)) 0 6 = _
  rw [UP_j (show ¬ (6 : Int) = 9 by decide)]
  show (UP (KQ8 P) 0 8 (19 + 1)) 0 6 = _
  rw [UP_j (show ¬ (6 : Int) = 8 by decide)]
  show (UP (KQ7 P) 0 7 (18 + 1)) 0 6 = _
  rw [UP_j (show ¬ (6 : Int) = 7 by decide)]
  show (UP (KQ6 P) 0 6 (17 + 1)) 0 6 = _
  rw [UP_e]
theorem kq_0_7 {P : Nat → Int → Nat} : KQ14 P 0 7 = 18 + 1 := by
  show (UP (UP (KQ13 P) 27 0 (27 + 1 + 1)) 20 3 (27 + 1)) 0 7 = _
  rw [UP_n (show ¬ 0 = 20 by decide), UP_n (show ¬ 0 = 27 by decide)]
  show (UP (UP (KQ12 P) 25 0 (25 + 1 + 1)) 20 2 (25 + 1)) 0 7 = _
  rw [UP_n (show ¬ 0 = 20 by decide), UP_n (show ¬ 0 = 25 by decide)]
  show (UP (UP (KQ11 P) 23 0 (23 + 1 + 1)) 20 1 (23 + 1)) 0 7 = _
  rw [UP_n (show ¬ 0 = 20 by decide), UP_n (show ¬ 0 = 23 by decide)]
  show (UP (UP (KQ10 P) 21 0 (21 + 1 + 1)) 20 0 (21 + 1)) 0 7 = _
  rw [UP_n (show ¬ 0 = 20 by decide), UP_n (show ¬ 0 = 21 by decide)]
  show (UP (KQ9 P) 0 9 (20 + 1)) 0 7 = _
  rw [UP_j (show ¬ (7 : Int) = 9 by decide)]
  show (UP (KQ8 P) 0 8 (19 + 1)) 0 7 = _
  rw [UP_j (show ¬ (7 : Int) = 8 by decide)]
  show (UP (KQ7 P) 0 7 (18 + 1)) 0 7 = _
  rw [UP_e]
theorem kq_0_8 {P : Nat → Int → Nat} : KQ14 P 0 8 = 19 + 1 := by
  show (UP (UP (KQ13 P) 27 0 (27 + 1 + 1)) 20 3 (27 + 1)) 0 8 = _
  rw [UP_n (show ¬ 0 = 20 by decide), UP_n (show ¬ 0 = 27 by decide)]
  show (UP (UP (KQ12 P) 25 0 (25 + 1 + 1)) 20 2 (25 + 1)) 0 8 = _
  rw [UP_n (show ¬ 0 = 20 by decide), UP_n (show ¬ 0 = 25 by decide)]
  show (UP (UP (KQ11 P) 23 0 (23 + 1 + 1)) 20 1 (23 + 1)) 0 8 = _
  rw [UP_n (show ¬ 0 = 20 by decide), UP_n (show ¬ 0 = 23 by decide)]
  show (UP (UP (KQ10 P) 21 0 (21 + 1 + 1)) 20 0 (21 + 1)) 0 8 = _
  rw [UP_n (show ¬ 0 = 20 by decide), UP_n (show ¬ 0 = 21 by decide)]
  show (UP (KQ9 P) 0 9 (20 + 1)) 0 8 = _
  rw [UP_j (show ¬ (8 : Int) = 9 by decide)]
  show (UP (KQ8 P) 0 8 (19 + 1)) 0 8 = _
  rw [UP_e]
theorem kq_0_9 {P : Nat → Int → Nat} : KQ14 P 0 9 = 20 + 1 := by
  show (UP (UP (KQ13 P) 27 0 (27 + 1 + 1)) 20 3 (27 + 1)) 0 9 = _
  rw [UP_n (show ¬ 0 = 20 by decide), UP_n (show ¬ 0 = 27 by decide)]
  show (UP (UP (KQ12 P) 25 0 (25 + 1 + 1)) 20 2 (25 + 1)) 0 9 = _
  rw [UP_n (show ¬ 0 = 20 by decide), UP_n (show ¬ 0 = 25 by decide)]
  show (UP (UP (KQ11 P) 23 0 (23 + 1 + 1)) 20 1 (23 + 1)) 0 9 = _
  rw [UP_n (show ¬ 0 = 20 by decide), UP_n (show ¬ 0 = 23 by decide)]
  show (UP (UP (KQ10 P) 21 0 (21 + 1 + 1)) 20 0 (21 + 1)) 0 9 = _
  rw [UP_n (show ¬ 0 = 20 by decide), UP_n (show ¬ 0 = 21 by decide)]
  show (UP (KQ9 P) 0 9 (20 + 1)) 0 9 = _
  rw [UP_e]
theorem kq_1_0 {P : Nat → Int → Nat} : KQ14 P 1 0 = 2 + 1 := by
  show (UP (UP (KQ13 P) 27 0 (27 + 1 + 1)) 20 3 (27 + 1)) 1 0 = _
  rw [UP_n (show ¬ 1 = 20 by decide), UP_n (show ¬ 1 = 27 by decide)]
  show (UP (UP (KQ12 P) 25 0 (25 + 1 + 1)) 20 2 (25 + 1)) 1 0 = _
  rw [UP_n (show ¬ 1 = 20 by decide), UP_n (show ¬ 1 = 25 by decide)]
  show (UP (UP (KQ11 P) 23 0 (23 + 1 + 1)) 20 1 (23 + 1)) 1 0 = _
  rw [UP_n (show ¬ 1 = 20 by decide), UP_n (show ¬ 1 = 23 by decide)]
  show (UP (UP (KQ10 P) 21 0 (21 + 1 + 1)) 20 0 (21 + 1)) 1 0 = _
  rw [UP_n (show ¬ 1 = 20 by decide), UP_n (show ¬ 1 = 21 by decide)]
  show (UP (KQ9 P) 0 9 (20 + 1)) 1 0 = _
  rw [UP_n (show ¬ 1 = 0 by decide)]
  show (UP (KQ8 P) 0 8 (19 + 1)) 1 0 = _
  rw [UP_n (show ¬ 1 = 0 by decide)]
  show (UP (KQ7 P) 0 7 (18 + 1)) 1 0 = _
  rw [UP_n (show ¬ 1 = 0 by decide)]
  show (UP (KQ6 P) 0 6 (17 + 1)) 1 0 = _
  rw [UP_n (show ¬ 1 = 0 by decide)]
  show (UP (KQ5 P) 0 5 (16 + 1)) 1 0 = _
  rw [UP_n (show ¬ 1 = 0 by decide)]
  show (UP (UP (UP (UP (UP (KQ4 P) 11 0 (11 + 1 + 1)) 11 1 (11 + 2 + 1)) 11 2 (11 + 3 + 1)) 11 3 (11 + 4 + 1)) 0 4 (11 + 1)) 1 0 = _
  rw [UP_n (show ¬ 1 = 0 by decide), UP_n (show ¬ 1 = 11 by decide), UP_n (show ¬ 1 = 11 by decide), UP_n (show ¬ 1 = 11 by decide), UP_n (show ¬ 1 = 11 by decide)]
  show (UP (UP (UP (KQ3 P) 8 0 (8 + 1 + 1)) 8 1 (8 + 2 + 1)) 0 3 (8 + 1)) 1 0 = _
  rw [UP_n (show ¬ 1 = 0 by decide), UP_n (show ¬ 1 = 8 by decide), UP_n (show ¬ 1 = 8 by decide)]
  show (UP (UP (KQ2 P) 6 0 (6 + 1 + 1)) 0 2 (6 + 1)) 1 0 = _
  rw [UP_n (show ¬ 1 = 0 by decide), UP_n (show ¬ 1 = 6 by decide)]
  show (UP (UP (UP (KQ1 P) 3 0 (3 + 1 + 1)) 3 1 (3 + 2 + 1)) 0 1 (3 + 1)) 1 0 = _
  rw [UP_n (show ¬ 1 = 0 by decide), UP_n (show ¬ 1 = 3 by decide), UP_n (show ¬ 1 = 3 by decide)]
  show (UP (UP P 1 0 (1 + 1 + 1)) 0 0 (1 + 1)) 1 0 = _
  rw [UP_n (show ¬ 1 = 0 by decide), UP_e]
theorem kq_3_0 {P : Nat → Int → Nat} : KQ14 P 3 0 = 4 + 1 := by
  show (UP (UP (KQ13 P) 27 0 (27 + 1 + 1)) 20 3 (27 + 1)) 3 0 = _
  rw [UP_n (show ¬ 3 = 20 by decide), UP_n (show ¬ 3 = 27 by decide)]
  show (UP (UP (KQ12 P) 25 0 (25 + 1 + 1)) 20 2 (25 + 1)) 3 0 = _
  rw [UP_n (show ¬ 3 = 20 by decide), UP_n (show ¬ 3 = 25 by decide)]
  show (UP (UP (KQ11 P) 23 0 (23 + 1 + 1)) 20 1 (23 + 1)) 3 0 = _
  rw [UP_n (show ¬ 3 = 20 by decide), UP_n (show ¬ 3 = 23 by decide)]
  show (UP (UP (KQ10 P) 21 0 (21 + 1 + 1)) 20 0 (21 + 1)) 3 0 = _
  rw [UP_n (show ¬ 3 = 20 by decide), UP_n (show ¬ 3 = 21 by decide)]
  show (UP (KQ9 P) 0 9 (20 + 1)) 3 0 = _
  rw [UP_n (show ¬ 3 = 0 by decide)]
  show (UP (KQ8 P) 0 8 (19 + 1)) 3 0 = _
  rw [UP_n (show ¬ 3 = 0 by decide)]
  show (UP (KQ7 P) 0 7 (18 + 1)) 3 0 = _
  rw [UP_n (show ¬ 3 = 0 by decide)]
  show (UP (KQ6 P) 0 6 (17 + 1)) 3 0 = _
  rw [UP_n (show ¬ 3 = 0 by decide)]
  show (UP (KQ5 P) 0 5 (16 + 1)) 3 0 = _
  rw [UP_n (show ¬ 3 = 0 by decide)]
  show (UP (UP (UP (UP (UP (KQ4 P) 11 0 (11 + 1 + 1)) 11 1 (11 + 2 + 1)) 11 2 (11 + 3 + 1)) 11 3 (11 + 4 + 1)) 0 4 (11 + 1)) 3 0 = _
  rw [UP_n (show ¬ 3 = 0 by decide), UP_n (show ¬ 3 = 11 by decide), UP_n (show ¬ 3 = 11 by decide), UP_n (show ¬ 3 = 11 by decide), UP_n (show ¬ 3 = 11 by decide)]
  show (UP (UP (UP (KQ3 P) 8 0 (8 + 1 + 1)) 8 1 (8 + 2 + 1)) 0 3 (8 + 1)) 3 0 = _
  rw [UP_n (show ¬ 3 = 0 by decide), UP_n (show ¬ 3 = 8 by decide), UP_n (show ¬ 3 = 8 by decide)]
  show (UP (UP (KQ2 P) 6 0 (6 + 1 + 1)) 0 2 (6 + 1)) 3 0 = _
  rw [UP_n (show ¬ 3 = 0 by decide), UP_n (show ¬ 3 = 6 by decide)]
  show (UP (UP (UP (KQ1 P) 3 0 (3 + 1 + 1)) 3 1 (3 + 2 + 1)) 0 1 (3 + 1)) 3 0 = _
  rw [UP_n (show ¬ 3 = 0 by decide), UP_j (show ¬ (0 : Int) = 1 by decide), UP_e]
theorem kq_3_1 {P : Nat → Int → Nat} : KQ14 P 3 1 = 5 + 1 := by
  show (UP (UP (KQ13 P) 27 0 (27 + 1 + 1)) 20 3 (27 + 1)) 3 1 = _
  rw [UP_n (show ¬ 3 = 20 by decide), UP_n (show ¬ 3 = 27 by decide)]
  show (UP (UP (KQ12 P) 25 0 (25 + 1 + 1)) 20 2 (25 + 1)) 3 1 = _
  rw [UP_n (show ¬ 3 = 20 by decide), UP_n (show ¬ 3 = 25 by decide)]
  show (UP (UP (KQ11 P) 23 0 (23 + 1 + 1)) 20 1 (23 + 1)) 3 1 = _
  rw [UP_n (show ¬ 3 = 20 by decide), UP_n (show ¬ 3 = 23 by decide)]
  show (UP (UP (KQ10 P) 21 0 (21 + 1 + 1)) 20 0 (21 + 1)) 3 1 = _
  rw [UP_n (show ¬ 3 = 20 by decide), UP_n (show ¬ 3 = 21 by decide)]
  show (UP (KQ9 P) 0 9 (20 + 1)) 3 1 = _
  rw [UP_n (show ¬ 3 = 0 by decide)]
  show (UP (KQ8 P) 0 8 (19 + 1)) 3 1 = _
  rw [UP_n (show ¬ 3 = 0 by decide)]
  show (UP (KQ7 P) 0 7 (18 + 1)) 3 1 = _
  rw [UP_n (show ¬ 3 = 0 by decide)]
  show (UP (KQ6 P) 0 6 (17 + 1)) 3 1 = _
  rw [UP_n (show ¬ 3 = 0 by decide)]
  show (UP (KQ5 P) 0 5 (16 + 1)) 3 1 = _
  rw [UP_n (show ¬ 3 = 0 by decide)]
  show (UP (UP (UP (UP (UP (KQ4 P) 11 0 (11 + 1 + 1)) 11 1 (11 + 2 + 1)) 11 2 (11 + 3 + 1)) 11 3 (11 + 4 + 1)) 0 4 (11 + 1)) 3 1 = _
  rw [UP_n (show ¬ 3 = 0 by decide), UP_n (show ¬ 3 = 11 by decide), UP_n (show ¬ 3 = 11 by decide), UP_n (show ¬ 3 = 11 by decide), UP_n (show ¬ 3 = 11 by decide)]
  show (UP (UP (UP (KQ3 P) 8 0 (8 + 1 + 1)) 8 1 (8 + 2 + 1)) 0 3 (8 + 1)) 3 1 = _
  rw [UP_n (show ¬ 3 = 0 by decide), UP_n (show ¬ 3 = 8 by decide), UP_n (show ¬ 3 = 8 by decide)]
  show (UP (UP (KQ2 P) 6 0 (6 + 1 + 1)) 0 2 (6 + 1)) 3 1 = _
  rw [UP_n (show ¬ 3 = 0 by decide), UP_n (show ¬ 3 = 6 by decide)]
  show (UP (UP (UP (KQ1 P) 3 0 (3 + 1 + 1)) 3 1 (3 + 2 + 1)) 0 1 (3 + 1)) 3 1 = _
  rw [UP_n (show ¬ 3 = 0 by decide), UP_e]
theorem kq_6_0 {P : Nat → Int → Nat} : KQ14 P 6 0 = 7 + 1 := by
  show (UP (UP (KQ13 P) 27 0 (27 + 1 + 1)) 20 3 (27 + 1)) 6 0 = _
  rw [UP_n (show ¬ 6 = 20 by decide), UP_n (show ¬ 6 = 27 by decide)]
  show (UP (UP (KQ12 P) 25 0 (25 + 1 + 1)) 20 2 (25 + 1)) 6 0 = _
  rw [UP_n (show ¬ 6 = 20 by decide), UP_n (show ¬ 6 = 25 by decide)]
  show (UP (UP (KQ11 P) 23 0 (23 + 1 + 1)) 20 1 (23 + 1)) 6 0 = _
  rw [UP_n (show ¬ 6 = 20 by decide), UP_n (show ¬ 6 = 23 by decide)]
  show (UP (UP (KQ10 P) 21 0 (21 + 1 + 1)) 20 0 (21 + 1)) 6 0 = _
  rw [UP_n (show ¬ 6 = 20 by decide), UP_n (show ¬ 6 = 21 by decide)]
  show (UP (KQ9 P) 0 9 (20 + 1)) 6 0 = _
  rw [UP_n (show ¬ 6 = 0 by decide)]
  show (UP (KQ8 P) 0 8 (19 + 1)) 6 0 = _
  rw [UP_n (show ¬ 6 = 0 by decide)]
  show (UP (KQ7 P) 0 7 (18 + 1)) 6 0 = _
  rw [UP_n (show ¬ 6 = 0 by decide)]
  show (UP (KQ6 P) 0 6 (17 + 1)) 6 0 = _
  rw [UP_n (show ¬ 6 = 0 by decide)]
  show (UP (KQ5 P) 0 5 (16 + 1)) 6 0 = _
  rw [UP_n (show ¬ 6 = 0 by decide)]
  show (UP (UP (UP (UP (UP (KQ4 P) 11 0 (11 + 1 + 1)) 11 1 (11 + 2 + 1)) 11 2 (11 + 3 + 1)) 11 3 (11 + 4 + 1)) 0 4 (11 + 1)) 6 0 = _
  rw [UP_n (show ¬ 6 = 0 by decide), UP_n (show ¬ 6 = 11 by decide), UP_n (show ¬ 6 = 11 by decide), UP_n (show ¬ 6 = 11 by decide), UP_n (show ¬ 6 = 11 by decide)]
  show (UP (UP (UP (KQ3 P) 8 0 (8 + 1 + 1)) 8 1 (8 + 2 + 1)) 0 3 (8 + 1)) 6 0 = _
  rw [UP_n (show ¬ 6 = 0 by decide), UP_n (show ¬ 6 = 8 by decide), UP_n (show ¬ 6 = 8 by decide)]
  show (UP (UP (KQ2 P) 6 0 (6 + 1 + 1)) 0 2 (6 + 1)) 6 0 = _
  rw [UP_n (show ¬ 6 = 0 by decide), UP_e]
theorem kq_8_0 {P : Nat → Int → Nat} : KQ14 P 8 0 = 9 + 1 := by
  show (UP (UP (KQ13 P) 27 0 (27 + 1 + 1)) 20 3 (27 + 1)) 8 0 = _
  rw [UP_n (show ¬ 8 = 20 by decide), UP_n (show ¬ 8 = 27 by decide)]
  show (UP (UP (KQ12 P) 25 0 (25 + 1 + 1)) 20 2 (25 + 1)) 8 0 = _
  rw [UP_n (show ¬ 8 = 20 by decide), UP_n (show ¬ 8 = 25 by decide)]
  show (UP (UP (KQ11 P) 23 0 (23 + 1 + 1)) 20 1 (23 + 1)) 8 0 = _
  rw [UP_n (show ¬ 8 = 20 by decide), UP_n (show ¬ 8 = 23 by decide)]
  show (UP (UP (KQ10 P) 21 0 (21 + 1 + 1)) 20 0 (21 + 1)) 8 0 = _
  rw [UP_n (show ¬ 8 = 20 by decide), UP_n (show ¬ 8 = 21 by decide)]
  show (UP (KQ9 P) 0 9 (20 + 1)) 8 0 = _
  rw [UP_n (show ¬ 8 = 0 by decide)]
  show (UP (KQ8 P) 0 8 (19 + 1)) 8 0 = _
  rw [UP_n (show ¬ 8 = 0 by decide)]
  show (UP (KQ7 P) 0 7 (18 + 1)) 8 0 = _
  rw [UP_n (show ¬ 8 = 0 by decide)]
  show (UP (KQ6 P) 0 6 (17 + 1)) 8 0 = _
  rw [UP_n (show ¬ 8 = 0 by decide)]
  show (UP (KQ5 P) 0 5 (16 + 1)) 8 0 = _
  rw [UP_n (show ¬ 8 = 0 by decide)]
  show (UP (UP (UP (UP (UP (KQ4 P) 11 0 (11 + 1 + 1)) 11 1 (11 + 2 + 1)) 11 2 (11 + 3 + 1)) 11 3 (11 + 4 + 1)) 0 4 (11 + 1)) 8 0 = _
  rw [UP_n (show ¬ 8 = 0 by decide), UP_n (show ¬ 8 = 11 by decide), UP_n (show ¬ 8 = 11 by decide), UP_n (show ¬ 8 = 11 by decide), UP_n (show ¬ 8 = 11 by decide)]
  show (UP (UP (UP (KQ3 P) 8 0 (8 + 1 + 1)) 8 1 (8 + 2 + 1)) 0 3 (8 + 1)) 8 0 = _
  rw [UP_n (show ¬ 8 = 0 by decide), UP_j (show ¬ (0 : Int) = 1 by decide), UP_e]
theorem kq_8_1 {P : Nat → Int → Nat} : KQ14 P 8 1 = 10 + 1 := by
  show (UP (UP (KQ13 P) 27 0 (27 + 1 + 1)) 20 3 (27 + 1)) 8 1 = _
  rw [UP_n (show ¬ 8 = 20 by decide), UP_n (show ¬ 8 = 27 by decide)]
  show (UP (UP (KQ12 P) 25 0 (25 + 1 + 1)) 20 2 (25 + 1)) 8 1 = _
  rw [UP_n (show ¬ 8 = 20 by decide), UP_n (show ¬ 8 = 25 by decide)]
  show (UP (UP (KQ11 P) 23 0 (23 + 1 + 1)) 20 1 (23 + 1)) 8 1 = _
  rw [UP_n (show ¬ 8 = 20 by decide), UP_n (show ¬ 8 = 23 by decide)]
  show (UP (UP (KQ10 P) 21 0 (21 + 1 + 1)) 20 0 (21 + 1)) 8 1 = _
  rw [UP_n (show ¬ 8 = 20 by decide), UP_n (show ¬ 8 = 21 by decide)]
  show (UP (KQ9 P) 0 9 (20 + 1)) 8 1 = _
  rw [UP_n (show ¬ 8 = 0 by decide)]
  show (UP (KQ8 P) 0 8 (19 + 1)) 8 1 = _
  rw [UP_n (show ¬ 8 = 0 by decide)]
  show (UP (KQ7 P) 0 7 (18 + 1)) 8 1 = _
  rw [UP_n (show ¬ 8 = 0 by decide)]
  show (UP (KQ6 P) 0 6 (17 + 1)) 8 1 = _
  rw [UP_n (show ¬ 8 = 0 by decide)]
  show (UP (KQ5 P) 0 5 (16 + 1)) 8 1 = _
  rw [UP_n (show ¬ 8 = 0 by decide)]
  show (UP (UP (UP (UP (UP (KQ4 P) 11 0 (11 + 1 + 1)) 11 1 (11 + 2 + 1)) 11 2 (11 + 3 + 1)) 11 3 (11 + 4 + 1)) 0 4 (11 + 1)) 8 1 = _
  rw [UP_n (show ¬ 8 = 0 by decide), UP_n (show ¬ 8 = 11 by decide), UP_n (show ¬ 8 = 11 by decide), UP_n (show ¬ 8 = 11 by decide), UP_n (show ¬ 8 = 11 by decide)]
  show (UP (UP (UP (KQ3 P) 8 0 (8 + 1 + 1)) 8 1 (8 + 2 + 1)) 0 3 (8 + 1)) 8 1 = _
  rw [UP_n (show ¬ 8 = 0 by decide), UP_e]
theorem kq_11_0 {P : Nat → Int → Nat} : KQ14 P 11 0 = 12 + 1 := by
  show (UP (UP (KQ13 P) 27 0 (27 + 1 + 1)) 20 3 (27 + 1)) 11 0 = _
  rw [UP_n (show ¬ 11 = 20 by decide), UP_n (show ¬ 11 = 27 by decide)]
  show (UP (UP (KQ12 P) 25 0 (25 + 1 + 1)) 20 2 (25 + 1)) 11 0 = _
  rw [UP_n (show ¬ 11 = 20 by decide), UP_n (show ¬ 11 = 25 by decide)]
  show (UP (UP (KQ11 P) 23 0 (23 + 1 + 1)) 20 1 (23 + 1)) 11 0 = _
  rw [UP_n (show ¬ 11 = 20 by decide), UP_n (show ¬ 11 = 23 by decide)]
  show (UP (UP (KQ10 P) 21 0 (21 + 1 + 1)) 20 0 (21 + 1)) 11 0 = _
  rw [UP_n (show ¬ 11 = 20 by decide), UP_n (show ¬ 11 = 21 by decide)]
  show (UP (KQ9 P) 0 9 (20 + 1)) 11 0 = _
  rw [UP_n (show ¬ 11 = 0 by decide)]
  show (UP (KQ8 P) 0 8 (19 + 1)) 11 0 = _
  rw [UP_n (show ¬ 11 = 0 by decide)]
  show (UP (KQ7 P) 0 7 (18 + 1)) 11 0 = _
  rw [UP_n (show ¬ 11 = 0 by decide)]
  show (UP (KQ6 P) 0 6 (17 + 1)) 11 0 = _
  rw [UP_n (show ¬ 11 = 0 by decide)]
  show (UP (KQ5 P) 0 5 (16 + 1)) 11 0 = _
  rw [UP_n (show ¬ 11 = 0 by decide)]
  show (UP (UP (UP (UP (UP (KQ4 P) 11 0 (11 + 1 + 1)) 11 1 (11 + 2 + 1)) 11 2 (11 + 3 + 1)) 11 3 (11 + 4 + 1)) 0 4 (11 + 1)) 11 0 = _
  rw [UP_n (show ¬ 11 = 0 by decide), UP_j (show ¬ (0 : Int) = 3 by decide), UP_j (show ¬ (0 : Int) = 2 by decide), UP_j (show ¬ (0 : Int) = 1 by decide), UP_e]
theorem kq_11_1 {P : Nat → Int → Nat} : KQ14 P 11 1 = 13 + 1 := by
  show (UP (UP (KQ13 P) 27 0 (27 + 1 + 1)) 20 3 (27 + 1)) 11 1 = _
  rw [UP_n (show ¬ 11 = 20 by decide), UP_n (show ¬ 11 = 27 by decide)]
  show (UP (UP (KQ12 P) 25 0 (25 + 1 + 1)) 20 2 (25 + 1)) 11 1 = _
  rw [UP_n (show ¬ 11 = 20 by decide), UP_n (show ¬ 11 = 25 by decide)]
  show (UP (UP (KQ11 P) 23 0 (23 + 1 + 1)) 20 1 (23 + 1)) 11 1 = _
  rw [UP_n (show ¬ 11 = 20 by decide), UP_n (show ¬ 11 = 23 by decide)]
  show (UP (UP (KQ10 P) 21 0 (21 + 1 + 1)) 20 0 (21 + 1)) 11 1 = _
  rw [UP_n (show ¬ 11 = 20 by decide), UP_n (show ¬ 11 = 21 by decide)]
  show (UP (KQ9 P) 0 9 (20 + 1)) 11 1 = _
  rw [UP_n (show ¬ 11 = 0 by decide)]
  show (UP (KQ8 P) 0 8 (19 + 1)) 11 1 = _
  rw [UP_n (show ¬ 11 = 0 by decide)]
  show (UP (KQ7 P) 0 7 (18 + 1)) 11 1 = _
  rw [UP_n (show ¬ 11 = 0 by decide)]
  show (UP (KQ6 P) 0 6 (17 + 1)) 11 1 = _
  rw [UP_n (show ¬ 11 = 0 by decide)]
  show (UP (KQ5 P) 0 5 (16 + 1)) 11 1 = _
  rw [UP_n (show ¬ 11 = 0 by decide)]
  show (UP (UP (UP (UP (UP (KQ4 P) 11 0 (11 + 1 + 1)) 11 1 (11 + 2 + 1)) 11 2 (11 + 3 + 1)) 11 3 (11 + 4 + 1)) 0 4 (11 + 1)) 11 1 = _
  rw [UP_n (show ¬ 11 = 0 by decide), UP_j (show ¬ (1 : Int) = 3 by decide), UP_j (show ¬ (1 : Int) = 2 by decide), UP_e]
theorem kq_11_2 {P : Nat → Int → Nat} : KQ14 P 11 2 = 14 + 1 := by
  show (UP (UP (KQ13 P) 27 0 (27 + 1 + 1)) 20 3 (27 + 1)) 11 2 = _
  rw [UP_n (show ¬ 11 = 20 by decide), UP_n (show ¬ 11 = 27 by decide)]
  show (UP (UP (KQ12 P) 25 0 (25 + 1 + 1)) 20 2 (25 + 1)) 11 2 = _
  rw [UP_n (show ¬ 11 = 20 by decide), UP_n (show ¬ 11 = 25 by decide)]
  show (UP (UP (KQ11 P) 23 0 (23 + 1 + 1)) 20 1 (23 + 1)) 11 2 = _
  rw [UP_n (show ¬ 11 = 20 by decide), UP_n (show ¬ 11 = 23 by decide)]
  show (UP (UP (KQ10 P) 21 0 (21 + 1 + 1)) 20 0 (21 + 1)) 11 2 = _
  rw [UP_n (show ¬ 11 = 20 by decide), UP_n (show ¬ 11 = 21 by decide)]
  show (UP (KQ9 P) 0 9 (20 + 1)) 11 2 = _
  rw [UP_n (show ¬ 11 = 0 by decide)]
  show (UP (KQ8 P) 0 8 (19 + 1)) 11 2 = _
  rw [UP_n (show ¬ 11 = 0 by decide)]
  show (UP (KQ7 P) 0 7 (18 + 1)) 11 2 = _
  rw [UP_n (show ¬ 11 = 0 by decide)]
  show (UP (KQ6 P) 0 6 (17 + 1)) 11 2 = _
  rw [UP_n (show ¬ 11 = 0 by decide)]
  show (UP (KQ5 P) 0 5 (16 + 1)) 11 2 = _
  rw [UP_n (show ¬ 11 = 0 by decide)]
  show (UP (UP (UP (UP (UP (KQ4 P) 11 0 (11 + 1 + 1)) 11 1 (11 + 2 + 1)) 11 2 (11 + 3 + 1)) 11 3 (11 + 4 + 1)) 0 4 (11 + 1)) 11 2 = _
  rw [UP_n (show ¬ 11 = 0 by decide), UP_j (show ¬ (2 : Int) = 3 by decide), UP_e]
theorem kq_11_3 {P : Nat → Int → Nat} : KQ14 P 11 3 = 15 + 1 := by
  show (UP (UP (KQ13 P) 27 0 (27 + 1 + 1)) 20 3 (27 + 1)) 11 3 = _
  rw [UP_n (show ¬ 11 = 20 by decide), UP_n (show ¬ 11 = 27 by decide)]
  show (UP (UP (KQ12 P) 25 0 (25 + 1 + 1)) 20 2 (25 + 1)) 11 3 = _
  rw [UP_n (show ¬ 11 = 20 by decide), UP_n (show ¬ 11 = 25 by decide)]
  show (UP (UP (KQ11 P) 23 0 (23 + 1 + 1)) 20 1 (23 + 1)) 11 3 = _
  rw [UP_n (show ¬ 11 = 20 by decide), UP_n (show ¬ 11 = 23 by decide)]
  show (UP (UP (KQ10 P) 21 0 (21 + 1 + 1)) 20 0 (21 + 1)) 11 3 = _
  rw [UP_n (show ¬ 11 = 20 by decide), UP_n (show ¬ 11 = 21 by decide)]
  show (UP (KQ9 P) 0 9 (20 + 1)) 11 3 = _
  rw [UP_n (show ¬ 11 = 0 by decide)]
  show (UP (KQ8 P) 0 8 (19 + 1)) 11 3 = _
  rw [UP_n (show ¬ 11 = 0 by decide)]
  show (UP (KQ7 P) 0 7 (18 + 1)) 11 3 = _
  rw [UP_n (show ¬ 11 = 0 by decide)]
  show (UP (KQ6 P) 0 6 (17 + 1)) 11 3 = _
  rw [UP_n (show ¬ 11 = 0 by decide)]
  show (UP (KQ5 P) 0 5 (16 + 1)) 11 3 = _
  rw [UP_n (show ¬ 11 = 0 by decide)]
  show (UP (UP (UP (UP (UP (KQ4 P) 11 0 (11 + 1 + 1)) 11 1 (11 + 2 + 1)) 11 2 (11 + 3 + 1)) 11 3 (11 + 4 + 1)) 0 4 (11 + 1)) 11 3 = _
  rw [UP_n (show ¬ 11 = 0 by decide), UP_e]
theorem kq_21_0 {P : Nat → Int → Nat} : KQ14 P 21 0 = 22 + 1 := by
  show (UP (UP (KQ13 P) 27 0 (27 + 1 + 1)) 20 3 (27 + 1)) 21 0 = _
  rw [UP_n (show ¬ 21 = 20 by decide), UP_n (show ¬ 21 = 27 by decide)]
  show (UP (UP (KQ12 P) 25 0 (25 + 1 + 1)) 20 2 (25 + 1)) 21 0 = _
  rw [UP_n (show ¬ 21 = 20 by decide), UP_n (show ¬ 21 = 25 by decide)]
  show (UP (UP (KQ11 P) 23 0 (23 + 1 + 1)) 20 1 (23 + 1)) 21 0 = _
  rw [UP_n (show ¬ 21 = 20 by decide), UP_n (show ¬ 21 = 23 by decide)]
  show (UP (UP (KQ10 P) 21 0 (21 + 1 + 1)) 20 0 (21 + 1)) 21 0 = _
  rw [UP_n (show ¬ 21 = 20 by decide), UP_e]
theorem kq_23_0 {P : Nat → Int → Nat} : KQ14 P 23 0 = 24 + 1 := by
  show (UP (UP (KQ13 P) 27 0 (27 + 1 + 1)) 20 3 (27 + 1)) 23 0 = _
  rw [UP_n (show ¬ 23 = 20 by decide), UP_n (show ¬ 23 = 27 by decide)]
  show (UP (UP (KQ12 P) 25 0 (25 + 1 + 1)) 20 2 (25 + 1)) 23 0 = _
  rw [UP_n (show ¬ 23 = 20 by decide), UP_n (show ¬ 23 = 25 by decide)]
  show (UP (UP (KQ11 P) 23 0 (23 + 1 + 1)) 20 1 (23 + 1)) 23 0 = _
  rw [UP_n (show ¬ 23 = 20 by decide), UP_e]
theorem kq_25_0 {P : Nat → Int → Nat} : KQ14 P 25 0 = 26 + 1 := by
  show (UP (UP (KQ13 P) 27 0 (27 + 1 + 1)) 20 3 (27 + 1)) 25 0 = _
  rw [UP_n (show ¬ 25 = 20 by decide), UP_n (show ¬ 25 = 27 by decide)]
  show (UP (UP (KQ12 P) 25 0 (25 + 1 + 1)) 20 2 (25 + 1)) 25 0 = _
  rw [UP_n (show ¬ 25 = 20 by decide), UP_e]
theorem kq_27_0 {P : Nat → Int → Nat} : KQ14 P 27 0 = 28 + 1 := by
  show (UP (UP (KQ13 P) 27 0 (27 + 1 + 1)) 20 3 (27 + 1)) 27 0 = _
  rw [UP_n (show ¬ 27 = 20 by decide), UP_e]
theorem kq_20_0 {P : Nat → Int → Nat} : KQ14 P 20 0 = 21 + 1 := by
  show (UP (UP (KQ13 P) 27 0 (27 + 1 + 1)) 20 3 (27 + 1)) 20 0 = _
  rw [UP_j (show ¬ (0 : Int) = 3 by decide), UP_n (show ¬ 20 = 27 by decide)]
  show (UP (UP (KQ12 P) 25 0 (25 + 1 + 1)) 20 2 (25 + 1)) 20 0 = _
  rw [UP_j (show ¬ (0 : Int) = 2 by decide), UP_n (show ¬ 20 = 25 by decide)]
  show (UP (UP (KQ11 P) 23 0 (23 + 1 + 1)) 20 1 (23 + 1)) 20 0 = _
  rw [UP_j (show ¬ (0 : Int) = 1 by decide), UP_n (show ¬ 20 = 23 by decide)]
  show (UP (UP (KQ10 P) 21 0 (21 + 1 + 1)) 20 0 (21 + 1)) 20 0 = _
  rw [UP_e]
theorem kq_20_1 {P : Nat → Int → Nat} : KQ14 P 20 1 = 23 + 1 := by
  show (UP (UP (KQ13 P) 27 0 (27 + 1 + 1)) 20 3 (27 + 1)) 20 1 = _
  rw [UP_j (show ¬ (1 : Int) = 3 by decide), UP_n (show ¬ 20 = 27 by decide)]
  show (UP (UP (KQ12 P) 25 0 (25 + 1 + 1)) 20 2 (25 + 1)) 20 1 = _
  rw [UP_j (show ¬ (1 : Int) = 2 by decide), UP_n (show ¬ 20 = 25 by decide)]
  show (UP (UP (KQ11 P) 23 0 (23 + 1 + 1)) 20 1 (23 + 1)) 20 1 = _
  rw [UP_e]
theorem kq_20_2 {P : Nat → Int → Nat} : KQ14 P 20 2 = 25 + 1 := by
  show (UP (UP (KQ13 P) 27 0 (27 + 1 + 1)) 20 3 (27 + 1)) 20 2 = _
  rw [UP_j (show ¬ (2 : Int) = 3 by decide), UP_n (show ¬ 20 = 27 by decide)]
  show (UP (UP (KQ12 P) 25 0 (25 + 1 + 1)) 20 2 (25 + 1)) 20 2 = _
  rw [UP_e]
theorem kq_20_3 {P : Nat → Int → Nat} : KQ14 P 20 3 = 27 + 1 := by
  show (UP (UP (KQ13 P) 27 0 (27 + 1 + 1)) 20 3 (27 + 1)) 20 3 = _
  rw [UP_e]
theorem ku_s {W : gW} : gsz (KU14 W) = gsz W + 28 ∧ gsl (KU14 W) ≤ gsl W + 6000 ∧ gz (KU14 W) = gz W := by
  have h0 : ∀ (V : gW) (c k n : Nat), gsz (gN V c k n) = gsz V + 1 ∧ gsl (gN V c k n) = gsl V + n ∧ gz (gN V c k n) = gz V := fun _ _ _ _ => ⟨rfl, rfl, rfl⟩
  have h1 : gsz (KU5 W) = gsz W + 15 ∧ gsl (KU5 W) = gsl W + 5485 ∧ gz (KU5 W) = gz W := by
    refine ⟨?_, ?_, ?_⟩
    · simp only [KU5, KU4, KU3, KU2, KU1, KW1, KW2, KW3, KW4, KW5, (h0 _ _ _ _).1]
    · simp only [KU5, KU4, KU3, KU2, KU1, KW1, KW2, KW3, KW4, KW5, (h0 _ _ _ _).2.1]
    · simp only [KU5, KU4, KU3, KU2, KU1, KW1, KW2, KW3, KW4, KW5, (h0 _ _ _ _).2.2]
  have h2 : gsz (KU10 W) = gsz (KU5 W) + 5 ∧ gsl (KU10 W) = gsl (KU5 W) + 26 ∧ gz (KU10 W) = gz (KU5 W) := by
    refine ⟨?_, ?_, ?_⟩
    · simp only [KU10, KU9, KU8, KU7, KU6, (h0 _ _ _ _).1]
    · simp only [KU10, KU9, KU8, KU7, KU6, (h0 _ _ _ _).2.1]
    · simp only [KU10, KU9, KU8, KU7, KU6, (h0 _ _ _ _).2.2]
  have h3 : gsz (KU14 W) = gsz (KU10 W) + 8 ∧ gsl (KU14 W) = gsl (KU10 W) + 172 ∧ gz (KU14 W) = gz (KU10 W) := by
    refine ⟨?_, ?_, ?_⟩
    · simp only [KU14, KU13, KU12, KU11, KW7, (h0 _ _ _ _).1]
    · simp only [KU14, KU13, KU12, KU11, KW7, (h0 _ _ _ _).2.1]
    · simp only [KU14, KU13, KU12, KU11, KW7, (h0 _ _ _ _).2.2]
  refine ⟨by omega, by omega, by rw [h3.2.2, h2.2.2, h1.2.2]⟩
